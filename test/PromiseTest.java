/** For each promise of the document what it says, at ordinary inputs, at its edges and at wrong inputs. */
public final class PromiseTest extends Bench {
    private PromiseTest() {
    }

    public static void main(String[] args) {
        newObject();
        elders();
        left();
        place();
        heed();
        matters();
        holds();
        cares();
        clashes();
        bearing();
        losses();
        feeding();
        ending();
        faults();
        fullShelves();
        lawOfMatter();
        mindOfElder();
        worths();
        worthBounds();
        grounds();
        talks();
        talkEndings();
        speaking();
        lettersOfMinds();
        words();
        promises();
        promiseGains();
        all();
        fair();
        fairGreatLosses();
        barred();
        leftOpen();
        gifts();
        trades();
        hands();
        asides();
        taken();
        twice();
        mistaken();
        about();
        back();
        leans();
        mindsThatMayBe();
        counts();
        endTest("all promises hold");
    }

    private static void newObject() {
        of = "promise 1";
        TreeTalk x = new TreeTalk();
        due("NONE", NONE, -1);
        due("place(0)", x.place(0), NONE);
        for (int i = 0; i <= 9; i++) {
            due("count(" + i + ")", x.count(i), 0);
        }
    }

    private static void elders() {
        of = "promise 2";
        TreeTalk x = new TreeTalk();
        due("elder(19)", x.elder(19), NONE);
        due("elder(100)", x.elder(100), NONE);
        for (int w : WILD) {
            due("elder(" + w + ")", x.elder(w), NONE);
        }
        due("count", x.count(0), 0);
        due("elder(20)", x.elder(20), 0);
        due("elder(99)", x.elder(99), 1);
        for (int i = 2; i < 8; i++) {
            due("elder(50)", x.elder(50), i);
        }
        due("ninth", x.elder(50), NONE);
        due("count", x.count(0), 8);
    }

    private static void left() {
        of = "promise 3";
        TreeTalk x = tree(30, 40);
        for (int w : WILD) {
            no("left of none", x.left(w, true));
        }
        no("left(2)", x.left(2, true));
        no("is here", x.left(0, false));
        yes("leaves", x.left(0, true));
        no("has left", x.left(0, true));
        due("who sits", x.count(1), 1);
        due("elders", x.count(0), 2);
        yes("comes back", x.left(0, false));
        due("place(0)", x.place(0), 0);
        due("who sits", x.count(1), 2);
    }

    private static void place() {
        of = "promise 4";
        TreeTalk x = tree(60, 30, 60, 20, 30);
        int[] want = {3, 1, 4, 0, 2};
        for (int i = 0; i < 5; i++) {
            due("place(" + i + ")", x.place(i), want[i]);
        }
        due("place(5)", x.place(5), NONE);
        for (int w : WILD) {
            due("place(" + w + ")", x.place(w), NONE);
        }
        x.left(1, true);
        due("place(1), one left", x.place(1), 4);
        due("place(4), one left", x.place(4), NONE);
    }

    private static void heed() {
        of = "promise 5";
        TreeTalk x = tree(30, 40);
        yes("heed 0", x.heed(0, 1, 0));
        yes("heed 9", x.heed(0, 1, 9));
        no("heed 10", x.heed(0, 1, 10));
        no("heed -1", x.heed(0, 1, -1));
        no("alike", x.heed(1, 1, 3));
        for (int w : WILD) {
            no("no elder", x.heed(w, 0, 1));
            no("no other", x.heed(0, w, 1));
        }
        no("heed(0, 2)", x.heed(0, 2, 1));
        // heed of one for another, not of the other for the one: 1 says no if it heeds 0, who said for way 1
        TreeTalk y = tree(30, 40);
        y.matter(1, 2);
        y.hold(0, 0, 0, 0, 0);
        y.minded(1, mind(y, "n:e=5&k=0?1;n:0"));
        y.heed(0, 1, 5);
        due("words without heed", y.talk(0, 3), 1);
        y.heed(1, 0, 5);
        due("words with heed", y.talk(0, 3), 3);
    }

    private static void matters() {
        of = "promise 6";
        TreeTalk x = new TreeTalk();
        due("matter(0, 2)", x.matter(0, 2), NONE);
        due("matter(6, 2)", x.matter(6, 2), NONE);
        due("matter(1, 1)", x.matter(1, 1), NONE);
        due("matter(1, 5)", x.matter(1, 5), NONE);
        for (int w : WILD) {
            due("wild parts", x.matter(w, 2), NONE);
            due("wild ways", x.matter(2, w), NONE);
        }
        due("matter(1, 2)", x.matter(1, 2), 0);
        due("matter(5, 4)", x.matter(5, 4), 1);
        due("matter(5, 2)", x.matter(5, 2), 2);
        due("matter(1, 4)", x.matter(1, 4), 3);
        due("fifth", x.matter(2, 2), NONE);
        due("all of (1, 2)", x.all(0, NONE), 2);
        due("all of (5, 4)", x.all(1, NONE), 1024);
        due("all of (5, 2)", x.all(2, NONE), 32);
    }

    private static void holds() {
        of = "promise 7";
        TreeTalk x = tree(30);
        x.matter(2, 3);
        for (int v = 0; v <= 2; v++) {
            yes("hold", x.hold(0, 0, 1, 2, v));
            of = "promise 8";
            due("held", x.held(0, 0, 1, 2), v);
            of = "promise 7";
        }
        no("hold 3", x.hold(0, 0, 1, 2, 3));
        no("hold -1", x.hold(0, 0, 1, 2, -1));
        due("unchanged", x.held(0, 0, 1, 2), 2);
        yes("from 2 to 0", x.hold(0, 0, 1, 2, 0));
        due("from 2 to 0", x.held(0, 0, 1, 2), 0);
        yes("from 0 to 1", x.hold(0, 0, 1, 2, 1));
        due("from 0 to 1", x.held(0, 0, 1, 2), 1);
        for (int w : WILD) {
            no("wild hold", x.hold(w, 0, 0, 0, 1) | x.hold(0, w, 0, 0, 1) | x.hold(0, 0, w, 0, 1) | x.hold(0, 0, 0, w, 1));
        }
        no("hold part 2", x.hold(0, 0, 2, 0, 1));
        no("hold way 3", x.hold(0, 0, 0, 3, 1));
        of = "promise 8";
        due("at first", x.held(0, 0, 0, 0), 1);
        for (int w : WILD) {
            due("no elder", x.held(w, 0, 0, 0), NONE);
            due("no matter", x.held(0, w, 0, 0), NONE);
            due("no part", x.held(0, 0, w, 0), NONE);
            due("no way", x.held(0, 0, 0, w), NONE);
        }
        due("part 2", x.held(0, 0, 2, 0), NONE);
        due("way 3", x.held(0, 0, 0, 3), NONE);
        x.elder(40);
        due("of a later elder", x.held(1, 0, 1, 2), 1);
        x.left(0, true);
        yes("of one that left", x.hold(0, 0, 0, 0, 2));
        due("of one that left", x.held(0, 0, 0, 0), 2);
    }

    private static void cares() {
        of = "promise 9";
        TreeTalk x = tree(30);
        x.matter(2, 2);
        x.hold(0, 0, 1, 1, 2);
        due("care at first", x.loss(0, 0, 0), 1);
        yes("care 9", x.care(0, 0, 1, 9));
        due("care 9", x.loss(0, 0, 0), 9);
        no("care 10", x.care(0, 0, 1, 10));
        no("care -1", x.care(0, 0, 1, -1));
        due("unchanged", x.loss(0, 0, 0), 9);
        yes("care 0", x.care(0, 0, 1, 0));
        due("care 0", x.loss(0, 0, 0), 0);
        for (int w : WILD) {
            no("wild care", x.care(w, 0, 0, 1) | x.care(0, w, 0, 1) | x.care(0, 0, w, 1));
        }
        no("part 2", x.care(0, 0, 2, 1));
    }

    private static void clashes() {
        of = "promise 10";
        TreeTalk x = tree(30, 40);
        x.matter(2, 2);
        x.matter(2, 2);
        no("one part", x.clash(0, 0, 1, 0, 1, 1));
        for (int w : WILD) {
            no("wild clash", x.clash(w, 0, 0, 0, 1, 1) | x.clash(0, w, 0, 0, 1, 1) | x.clash(0, 0, w, 0, 1, 1)
                | x.clash(0, 0, 0, w, 1, 1) | x.clash(0, 0, 0, 0, w, 1) | x.clash(0, 0, 0, 0, 1, w));
        }
        no("part 2", x.clash(0, 0, 0, 0, 2, 1));
        no("way 2", x.clash(0, 0, 0, 0, 1, 2));
        due("count", x.count(3), 0);
        yes("clash", x.clash(0, 0, 1, 1, 0, 0));
        due("bears the clash", x.bear(0, 0, 1), 0);
        due("bears another", x.bear(0, 0, 5), 1);
        due("another bears it", x.bear(1, 0, 1), 1);
        due("in another matter", x.bear(0, 1, 1), 1);
        for (int i = 1; i < 40; i++) {
            yes("clash again", x.clash(1, i % 2, 0, 0, 1, 1));
        }
        no("one more", x.clash(0, 1, 0, 0, 1, 0));
        due("count", x.count(3), 40);
        TreeTalk y = tree(30);
        y.matter(2, 2);
        due("words without a clash", y.talk(0, 3), 0);
        for (int i = 0; i < 40; i++) {
            yes("all in one matter", y.clash(0, 0, 0, 0, 1, 0));
        }
        due("words with a clash", y.talk(0, 3), 1);
        due("40 clashes in one matter", y.bear(0, 0, 1), 1);
        due("all", y.all(0, NONE), 3);
    }

    private static void bearing() {
        of = "promise 11";
        TreeTalk x = tree(30, 40);
        x.matter(3, 3);
        x.hold(0, 0, 2, 1, 0);
        x.hold(0, 0, 0, 0, 2);
        due("bears", x.bear(0, 0, 0), 1);
        due("cannot", x.bear(0, 0, 1), 0);
        due("cannot in the highest part", x.bear(0, 0, 16), 1);
        x.hold(1, 0, 0, 2, 0);
        due("part 0 is the highest", x.bear(1, 0, 32), 0);
        due("part 0 is the highest", x.bear(1, 0, 2), 1);
        due("digit too high", x.bear(0, 0, 3), NONE);
        due("digit too high", x.bear(0, 0, 12), NONE);
        due("too many digits", x.bear(0, 0, 64), NONE);
        for (int w : WILD) {
            due("no elder", x.bear(w, 0, 0), NONE);
            due("no matter", x.bear(0, w, 0), NONE);
            due("no proposal", x.bear(0, 0, w), NONE);
        }
        x.left(0, true);
        due("one that left", x.bear(0, 0, 1), 0);
    }

    private static void losses() {
        of = "promise 12";
        TreeTalk x = tree(30);
        x.matter(3, 3);
        x.care(0, 0, 0, 5);
        x.care(0, 0, 2, 7);
        due("wants nothing", x.loss(0, 0, 0), 0);
        x.hold(0, 0, 0, 1, 2);
        x.hold(0, 0, 0, 2, 2);
        x.hold(0, 0, 2, 0, 2);
        due("loss of part 0", x.loss(0, 0, 0), 5);
        due("loss of none", x.loss(0, 0, 16), 0);
        due("loss of none", x.loss(0, 0, 32), 0);
        due("loss of both", x.loss(0, 0, 1), 12);
        x.hold(0, 0, 1, 0, 0);
        due("a way it cannot bear, but none it would", x.loss(0, 0, 16), 0);
        x.hold(0, 0, 1, 1, 2);
        due("a way it cannot bear", x.loss(0, 0, 16), 1);
        for (int w : WILD) {
            due("no elder", x.loss(w, 0, 0), NONE);
            due("no matter", x.loss(0, w, 0), NONE);
            due("no proposal", x.loss(0, 0, w), NONE);
        }
        due("digit too high", x.loss(0, 0, 3), NONE);
    }

    private static void feeding() {
        of = "promise 13";
        TreeTalk x = new TreeTalk();
        due("zeros", x.feed(0, 0, 0, 0, 0), 0);
        due("some", x.feed(0x6e003a00, 0, 0x31, 0, 0), 3);
        due("read in their order", x.mind(), 0);
        for (int i = 1; i <= 8; i++) {
            due("twenty", x.feed(-1, -1, -1, -1, -1), 20 * i);
        }
        due("too many", x.feed(0, 0, 0, 0, 1), NONE);
        due("none more", x.feed(0, 0, 0, 0, 0), 160);
        due("count", x.count(9), 160);
        x.end(141);
        due("too many", x.feed(-1, -1, -1, -1, -1), NONE);
        due("up to 160", x.feed(-1, -1, -1, -1, -256), 160);
        x.end(0);
        x.feed(0x6e3a3130, 0, 0, 0, 0);
        due("high bytes", x.feed(0xff000000, 0, 0, 0, 0), 5);
        due("the high byte is a fault", x.fault(1), 4);
        x.end(4);
        for (int i = 0; i < 7; i++) {
            x.feed(0x20202020, 0x20202020, 0x20202020, 0x20202020, 0x20202020);
        }
        due("refused", x.feed(0x20202020, 0x20202020, 0x20202020, 0x20202020, 0x20202020), NONE);
        due("refused changes nothing", x.count(9), 144);
        due("no fault", x.fault(1), NONE);
    }

    private static void ending() {
        of = "promise 14";
        TreeTalk x = new TreeTalk();
        yes("end(0) of nothing", x.end(0));
        no("end(1) of nothing", x.end(1));
        write(x, "n:12");
        no("end(5)", x.end(5));
        for (int w : WILD) {
            no("end(" + w + ")", x.end(w));
        }
        due("count", x.count(9), 4);
        yes("end(4)", x.end(4));
        yes("end(3)", x.end(3));
        due("count", x.count(9), 3);
        due("mind", x.mind(), 0);
        due("worth", x.worth(0, 'n', 0, 0, 0, 0, 0), 1);
    }

    private static void faults() {
        of = "promise 15";
        TreeTalk x = new TreeTalk();
        for (int w : WILD) {
            due("fault(" + w + ")", x.fault(w), -2);
        }
        due("fault(2)", x.fault(2), -2);
        due("of nothing", x.fault(0), 0);
        due("of nothing", x.fault(1), 0);
        String[] goods = {"n:1", "c:9999", " n : 1 ", "n:h+e-o*t/k+a-q*w/g+f", "n:[[[[[[1]]]]]]", "n:!!!!!!h=1?1", "n:((((((h=1))))))?1",
            "n:(h=1)?1", "n:!(h=1|e>2)&o<3?[1+2]*3;c:0", "n:[h+1]=2?1", "n : h = 1 & ! e > 2 | ( o < 1 ) ? 1 + 2 ; c : 3", "n:1;n:2;c:3",
            "n:!(!(!(h=1)))?1", "n:((([[[1]]]=1)))?1", "n:!h=1&!!e=2?1", "n:h=[[[[[[1]]]]]]?1", "n:0000"};
        for (String text : goods) {
            due("fault of " + text, fault(text, 1), NONE);
        }
        due("law", fault("s:a+k-t*f/m;l:0;d:3", 0), NONE);
        Object[] bads = {"", 0, " ", 1, "n", 1, "n:", 2, "n: ", 3, "x", 0, "s:1", 0, "nn", 1, "n1", 1, "n:1;", 4, "n:1;;", 4, "n:?", 2,
            "n:m", 2, "n:s", 2, "n:H", 2, "n:12345", 6, "n:1 2", 4, "n:h1", 3, "n:1h", 3, "n:hh", 3, "n:-1", 2, "n:1+", 4, "n:1+-", 4,
            "n:1?", 3, "n:h=1", 5, "n:h=1;", 5, "n:h=1=", 5, "n:h=1?", 6, "n:h=1?(", 6, "n:h=1?!", 6, "n:h=1?h=1", 7, "n:(", 3, "n:(h", 4, "n:(h)", 4,
            "n:(h=1", 6, "n:(h=1)", 7, "n:(h=1)+", 7, "n:(h=1);", 7, "n:(h=1))", 7, "n:[h=", 4, "n:[h", 4, "n:[h)", 4, "n:h]", 3, "n:!", 3,
            "n:!h", 4, "n:!h;", 4, "n:!h?", 4, "n:!h=1;", 6, "n:h=1&", 6, "n:h=1&&", 6, "n:h=1|)", 6, "n:h=1&c", 6, "n:!!!!!!!h=1?1", 8,
            "n:(((((((h=1", 8, "n:[[[[[[[1", 8, "n:!(!(!([", 8, "n:h=1?[[[[[[[", 12, "n:h=[[[[[[[", 10, "n:!!!!!![", 8, "n:((((((!", 8,
            "n:1\t", 3, "n:h=1&h", 7, "n:h&", 3, "n:h|", 3, "n:[h&", 4, "n:h=1?2?", 7, "n:1+2=3*4", 9, "n:h==", 4, "n:1;m", 4, "n:1:", 3,
            "n:1" + (char) 233, 3, "n:1" + (char) 128, 3, (char) 238 + ":1", 0, "n:!h=1)", 6, "n:(h=1?", 6};
        for (int i = 0; i < bads.length; i += 2) {
            due("fault of " + bads[i], fault((String) bads[i], 1), (Integer) bads[i + 1]);
        }
        Object[] laws = {"n:1", 0, "s:h", 2, "s:1;l:e", 6, "d:m;c", 4, "l:0;d:g", 6};
        for (int i = 0; i < laws.length; i += 2) {
            due("fault of " + laws[i], fault((String) laws[i], 0), (Integer) laws[i + 1]);
        }
        write(x, "n:1;");
        x.fault(1);
        due("stays", x.count(9), 4);
        String longest = "c:0;".repeat(39) + "n:8";
        due("as many clauses as can be", fault(longest, 1), NONE);
        due("its last clause", worth(longest, 'n', 0, 0, 0, 0, 0), 8);
        String deep = "n:" + "h+".repeat(78) + "1";
        due("as many atoms as can be", worth(deep, 'n', 1, 0, 0, 0, 0), 79);
    }

    private static void fullShelves() {
        of = "promise 16";
        TreeTalk x = new TreeTalk();
        due("of nothing", x.law(), NONE);
        write(x, "n:1");
        due("with a fault", x.law(), NONE);
        due("stays", x.count(9), 3);
        for (int i = 0; i < 8; i++) {
            due("law", law(x, "d:" + i), i);
            due("empty then", x.count(9), 0);
        }
        due("ninth", law(x, "d:9"), NONE);
        due("stays", x.count(9), 3);
        due("laws", x.count(4), 8);
        of = "promise 17";
        due("minds", x.count(5), 0);
        write(x, "d:1");
        due("with a fault", x.mind(), NONE);
        due("stays", x.count(9), 3);
        for (int i = 0; i < 8; i++) {
            due("mind", mind(x, "n:" + i), i);
            due("empty then", x.count(9), 0);
        }
        due("ninth", mind(x, "n:9"), NONE);
        due("stays", x.count(9), 3);
        for (int i = 0; i < 8; i++) {
            due("each its own", x.worth(i, 'n', 0, 0, 0, 0, 0), i);
        }
    }

    private static void lawOfMatter() {
        of = "promise 18";
        TreeTalk x = tree(30);
        x.matter(1, 2);
        x.hold(0, 0, 0, 0, 0);
        yes("none", x.by(0, NONE));
        no("no such law", x.by(0, 0));
        law(x, "s:0");
        due("without a law", x.talk(0, 3), 1);
        for (int w : WILD) {
            no("no matter", x.by(w, 0));
            if (w != NONE) {
                no("no law", x.by(0, w));
            }
        }
        yes("by", x.by(0, 0));
        due("by a law", x.talk(0, 3), 0);
        no("no such law", x.by(0, 1));
        due("refused", x.talk(0, 3), 0);
        yes("none again", x.by(0, NONE));
        due("without one again", x.talk(0, 3), 1);
    }

    private static void mindOfElder() {
        of = "promise 19";
        TreeTalk x = tree(30);
        x.matter(1, 2);
        x.hold(0, 0, 0, 0, 0);
        yes("none", x.minded(0, NONE));
        no("no such mind", x.minded(0, 0));
        mind(x, "n:0");
        due("without a mind", x.talk(0, 3), 1);
        for (int w : WILD) {
            no("no elder", x.minded(w, 0));
            if (w != NONE) {
                no("no mind", x.minded(0, w));
            }
        }
        yes("minded", x.minded(0, 0));
        due("with a mind", x.talk(0, 3), 0);
        no("no such mind", x.minded(0, 1));
        due("refused", x.talk(0, 3), 0);
        yes("none again", x.minded(0, NONE));
        due("without one again", x.talk(0, 3), 1);
    }

    private static int sum(String sum) {
        return worth("n:" + sum, 'n', 2, 3, 5, 7, 11);
    }

    private static int truth(String condition) {
        return worth("n:" + condition + "?1;n:0", 'n', 2, 3, 5, 7, 11);
    }

    private static void worths() {
        of = "promise 20";
        int[] wants = {2, 3, 5, 7, 11, 0, 0, 0, 0, 0};
        for (int i = 0; i < 10; i++) {
            due("letter " + "heotkaqwgf".charAt(i), sum("" + "heotkaqwgf".charAt(i)), wants[i]);
        }
        Object[] sums = {"9999", 9999, "0012", 12, "1+2*3", 7, "[1+2]*3", 9, "10-3-2", 5, "100/7/2", 7, "7/2*2", 6, "2*7/3", 4, "1-8/3", -1,
            "[0-8]/3", -2, "8/[0-3]", -2, "[0-8]/[0-3]", 2, "5/0", 0, "5/[h-2]+1", 1, "1 + 2", 3, "[[2]*[3]]", 6, "h*e-o", 1, "0-k", -11};
        for (int i = 0; i < sums.length; i += 2) {
            due((String) sums[i], sum((String) sums[i]), (Integer) sums[i + 1]);
        }
        Object[] truths = {"h=2", 1, "h=3", 0, "h<3", 1, "h<2", 0, "h>1", 1, "h>2", 0, "!h=2", 0, "!h=3", 1, "!!h=2", 1,
            "h=2&e=3", 1, "h=2&e=4", 0, "h=3&e=3", 0, "h=3|e=3", 1, "h=2|e=4", 1, "h=3|e=4", 0, "h=2|e=4&o=0", 1, "(h=2|e=4)&o=0", 0,
            "o=0&e=4|h=2", 1, "!h=2|e=3", 1, "!(h=2|e=3)", 0, "!h=3&e=3", 1, "!h=2&e=4", 0, "!(h=2&e=4)", 1, "h+1=e", 1, "[h+1]*2>e+2", 1, "h=2&e=3&o=5", 1,
            "h=2&e=3&o=6", 0, "h=0|e=0|o=5", 1, "h-3<0", 1};
        for (int i = 0; i < truths.length; i += 2) {
            due((String) truths[i], truth((String) truths[i]), (Integer) truths[i + 1]);
        }
        due("the first that holds", worth("n:h=1?1;c:2;n:h>1?3;n:4", 'n', 2, 0, 0, 0, 0), 3);
        due("the first without one", worth("n:h=1?1;c:2;n:5;n:h>1?3;n:4", 'n', 2, 0, 0, 0, 0), 5);
        due("another label", worth("n:h=1?1;c:2;n:h>1?3;n:4", 'c', 2, 0, 0, 0, 0), 2);
        due("none holds", worth("n:h=1?1;n:h=3?2", 'n', 2, 0, 0, 0, 0), THROWS);
        due("no such clause", worth("n:1", 'c', 0, 0, 0, 0, 0), THROWS);
        due("no such label", worth("n:1;c:2", 's', 0, 0, 0, 0, 0), THROWS);
        due("no such label", worth("n:1;c:2", 'n' + 256, 0, 0, 0, 0, 0), THROWS);
        TreeTalk x = new TreeTalk();
        mind(x, "n:1");
        for (int w : WILD) {
            due("no such mind", orThrows(() -> x.worth(w, 'n', 0, 0, 0, 0, 0)), THROWS);
            due("no such label", orThrows(() -> x.worth(0, w, 0, 0, 0, 0, 0)), THROWS);
        }
        due("no such mind", orThrows(() -> x.worth(1, 'n', 0, 0, 0, 0, 0)), THROWS);
        // letters of a talk that was gone through before are not told here
        TreeTalk y = tree(30, 40);
        y.matter(1, 3);
        y.ground(0, 2);
        y.minded(1, mind(y, "n:a+q+w+g+f"));
        y.talk(0, 0);
        due("letters not told", y.worth(0, 'n', 0, 0, 0, 0, 0), 0);
    }

    private static void worthBounds() {
        Object[] sums = {"9999*9999", 1000000, "0-9999*9999", -1000000, "9999*9999-1", 999999, "9999*100+999", 1000000, "9999*9999*9999/1000", 1000,
            "[0-9999*9999]*9999", -1000000, "[0-9999*9999]-1", -1000000, "9999*9999+1", 1000000, "9999*9999/10", 100000};
        for (int i = 0; i < sums.length; i += 2) {
            due((String) sums[i], sum((String) sums[i]), (Integer) sums[i + 1]);
        }
        int most = Integer.MAX_VALUE;
        int least = Integer.MIN_VALUE;
        due("h*e", worth("n:h*e", 'n', most, most, 0, 0, 0), 1000000);
        due("h*e", worth("n:h*e", 'n', least, least, 0, 0, 0), 1000000);
        due("h*e", worth("n:h*e", 'n', least, most, 0, 0, 0), -1000000);
        due("h+e", worth("n:h+e", 'n', most, most, 0, 0, 0), 1000000);
        due("h-e", worth("n:h-e", 'n', least, most, 0, 0, 0), -1000000);
        due("h/e", worth("n:h/e", 'n', least, -1, 0, 0, 0), 1000000);
        due("h>e", worth("n:h>e?1;n:0", 'n', most, least, 0, 0, 0), 1);
    }

    private static void grounds() {
        of = "promise 21";
        TreeTalk x = tree(30);
        x.matter(2, 3);
        due("at first", x.talk(0, 2), 0);
        yes("ground", x.ground(0, 9));
        due("told", x.talk(0, 2), 9);
        no("no such proposal", x.ground(0, 3));
        no("no such proposal", x.ground(0, 16));
        for (int w : WILD) {
            no("wild", x.ground(w, 0) | x.ground(0, w));
        }
        due("unchanged", x.talk(0, 2), 9);
        yes("the same again", x.ground(0, 9));
    }

    private static void talks() {
        of = "promise 22";
        TreeTalk x = tree(30, 40);
        for (int w : WILD) {
            due("no matter", x.talk(w, 0), NONE);
        }
        due("no matter", x.talk(0, 0), NONE);
        x.matter(2, 3);
        for (int w : WILD) {
            due("no such", x.talk(0, w), NONE);
        }
        due("no such", x.talk(0, 4), NONE);
        dueTalk("nobody minds", x, 0, 0, 1, 0, 0);
        // the first part it cannot bear, then the next on the next day; of several the lowest, but the greatest hold
        x.hold(0, 0, 0, 0, 0);
        x.hold(0, 0, 1, 0, 0);
        x.hold(0, 0, 1, 2, 2);
        dueTalk("two noes of one", x, 0, 0, 3, 6, 2);
        // a clash with what is on the ground, either way of it
        TreeTalk y = tree(30);
        y.matter(2, 2);
        y.clash(0, 0, 1, 0, 0, 0);
        dueTalk("a clash", y, 0, 0, 2, 4, 1);
        y.ground(0, 1);
        dueTalk("no clash", y, 0, 0, 1, 1, 0);
        // who left does not speak
        y.ground(0, 0);
        y.left(0, true);
        dueTalk("who left", y, 0, 0, 1, 0, 0);
        // the youngest speaks first
        TreeTalk z = tree(50, 20);
        z.matter(1, 4);
        z.hold(0, 0, 0, 0, 0);
        z.hold(1, 0, 0, 0, 0);
        z.hold(0, 0, 0, 2, 2);
        z.hold(1, 0, 0, 3, 2);
        dueTalk("the youngest first", z, 0, 0, 2, 3, 1);
        z.left(1, true);
        dueTalk("the youngest gone", z, 0, 0, 2, 2, 1);
        z.left(1, false);
        dueTalk("the youngest back", z, 0, 0, 2, 3, 1);
    }

    private static void talkEndings() {
        of = "promise 22";
        dueTalk("round", quarrel(null), 0, 2, 2, 0, 4);
        dueTalk("over on day 1", quarrel("d:1"), 0, 1, 1, 0, 2);
        dueTalk("over is before round", quarrel("d:2"), 0, 1, 2, 0, 4);
        dueTalk("round before over", quarrel("d:3"), 0, 2, 2, 0, 4);
        dueTalk("1 at least", quarrel("d:0"), 0, 1, 1, 0, 2);
        dueTalk("1 at least", quarrel("d:0-9"), 0, 1, 1, 0, 2);
        dueTalk("letter of d", quarrel("d:m-1"), 0, 1, 1, 0, 2);
        dueTalk("letters not told to d", quarrel("d:1+a+k+t+f"), 0, 1, 1, 0, 2);
        dueTalk("no worth of d", quarrel("d:m=3?1"), 0, 2, 2, 0, 4);
        dueTalk("no word", quarrel("s:0"), 0, 0, 1, 0, 0);
        dueTalk("silence", quarrel("s:0;l:0"), 0, 3, 1, 0, 0);
        dueTalk("no silence", quarrel("s:0;l:1"), 0, 0, 1, 0, 0);
        dueTalk("silence is not told", quarrel("s:0;l:m=3?0"), 0, 0, 1, 0, 0);
        dueTalk("letters of l", quarrel("s:t<2?1;s:0;l:t-m"), 0, 3, 2, 0, 2);
        dueTalk("letters not told to l", quarrel("s:t<2?1;s:0;l:a+k+f"), 0, 3, 2, 0, 2);
        dueTalk("resting is before over", quarrel("s:0;d:1"), 0, 0, 1, 0, 0);
        TreeTalk x = quarrel("s:0;l:0");
        x.left(0, true);
        dueTalk("silence, but all who sit can bear it", x, 0, 0, 1, 0, 0);
        x.left(1, true);
        dueTalk("silence of nobody", x, 0, 0, 1, 0, 0);
        // through all ways by the day: the ground comes back on day 4, but only on day 8 with nothing new said
        TreeTalk y = tree(30);
        y.matter(1, 4);
        y.by(0, law(y, "s:1"));
        y.minded(0, mind(y, "n:1;c:[w+1]*[3-w]/[3-w]"));
        dueTalk("all ways, then the first once more", y, 0, 2, 8, 0, 8);
        // each day an elder says no to a part that it has not spoken of
        TreeTalk z = tree(20, 20, 20, 20, 20, 20, 20, 20);
        z.matter(4, 4);
        int m = mind(z, "n:a=[t-1]/4&q=[t-1]-[t-1]/4*4?1;n:0;c:w+1");
        for (int e = 0; e < 8; e++) {
            z.minded(e, m);
        }
        int[][] lasts = {{0, 30}, {29, 29}, {30, 30}, {31, 30}, {9999, 30}};
        for (int[] last : lasts) {
            z.by(0, law(z, last[0] == 0 ? "s:1" : "s:1;d:" + last[0]));
            dueTalk("over by d:" + last[0], z, 0, 1, last[1]);
            due("words", z.talk(0, 3), last[1]);
        }
        // each day all eight speak, and one of them of a part that it has not spoken of
        TreeTalk v = tree(20, 20, 20, 20, 20, 20, 20, 20);
        v.matter(5, 4);
        m = mind(v, "n:a=[t-1]/4&q=[t-1]-[t-1]/4*4?1;n:a=[t-1]/4?0;n:q=4?1;n:0;c:w+1");
        for (int e = 0; e < 8; e++) {
            v.minded(e, m);
        }
        v.by(0, law(v, "s:1"));
        due("as many words as can be", v.talk(0, 3), 240);
        due("the last one", orThrows(() -> v.said(0, 239, 1) * 10 + v.said(0, 239, 0)), 307);
        due("one more", orThrows(() -> v.said(0, 240, 0)), THROWS);
    }

    private static void speaking() {
        of = "promise 22";
        // without a law: less than three times
        TreeTalk x = tree(30);
        x.matter(4, 2);
        for (int p = 0; p < 4; p++) {
            x.hold(0, 0, p, 0, 0);
        }
        dueTalk("three times", x, 0, 0, 4, 84, 3);
        x.by(0, law(x, "d:9"));
        dueTalk("three times by a law without s", x, 0, 0, 4, 84, 3);
        x.by(0, law(x, "s:k<2?1"));
        dueTalk("where s has no worth", x, 0, 0, 4, 84, 3);
        x.by(0, law(x, "s:1"));
        dueTalk("as often as it would", x, 0, 0, 5, 85, 4);
        x.by(0, law(x, "s:2-k"));
        dueTalk("k", x, 0, 0, 3, 80, 2);
        x.by(0, law(x, "s:3-t"));
        dueTalk("t", x, 0, 0, 3, 80, 2);
        x.by(0, law(x, "s:m-1"));
        dueTalk("m", x, 0, 0, 1, 0, 0);
        x.elder(40);
        x.elder(20);
        dueTalk("m, three sit", x, 0, 0, 5, 85, 4);
        x.by(0, law(x, "s:a"));
        dueTalk("a, one sits ahead", x, 0, 0, 5, 85, 4);
        x.left(2, true);
        dueTalk("a, the youngest left", x, 0, 0, 1, 0, 0);
        TreeTalk y = tree(30, 40);
        y.matter(2, 3);
        for (int e = 0; e < 2; e++) {
            y.hold(e, 0, 0, 0, 0);
            y.hold(e, 0, 1, 0, 0);
        }
        dueTalk("both speak", y, 0, 0, 2, 5, 2);
        y.by(0, law(y, "s:1-f"));
        dueTalk("f, one word a day", y, 0, 0, 3, 5, 2);
    }

    /** Whether one with that mind says no at its first look, behind the words of one who said no to way 0 of part 0, for way 1. */
    private static int looks(String mind) {
        TreeTalk x = tree(30, 40, 50);
        x.matter(1, 3);
        x.matter(2, 3);
        x.hold(0, 1, 0, 0, 0);
        x.hold(2, 1, 0, 1, 2);
        x.heed(2, 0, 4);
        x.heed(2, 1, 3);
        x.heed(0, 2, 9);
        x.promise(0, 2, 0, 0, 0);
        x.promise(0, 2, 0, 0, 0);
        x.promise(0, 2, 0, 0, 1);
        x.promise(0, 1, 0, 0, 1);
        x.promise(0, 2, 1, 0, 0);
        x.by(1, law(x, "s:1;d:1"));
        x.minded(2, mind(x, mind));
        return x.talk(1, 3) == 2 ? 1 : 0;
    }

    private static void lettersOfMinds() {
        of = "promise 22";
        String[] yes = {"n:h=2&q=0?1;n:0", "n:e=4?1;n:0", "n:o=0&e>0?1;n:0", "n:t=1?1;n:0", "n:k=0?1;n:0", "n:a=2?1;n:0", "n:f=1?1;n:0", "n:w=1?1;n:0",
            "n:g=1?1;n:0", "n:q=1?1;n:0", "n:0-1", "n:w=5?0;n:w"};
        for (String mind : yes) {
            due(mind, looks(mind), 1);
        }
        String[] no = {"n:h=1&q=0?1;n:0", "n:e=7?1;n:0", "n:o=4?1;n:0", "n:t=2?1;n:0", "n:k=1?1;n:0", "n:a=1?1;n:0", "n:f=0?1;n:0", "n:w=2?1;n:0",
            "n:g=0?1;n:0", "n:q=2?1;n:0", "n:0", "c:1", "n:w=5?1"};
        for (String mind : no) {
            due(mind, looks(mind), 0);
        }
        // e and o: each elder once, though it said so twice
        TreeTalk x = tree(20, 30, 40);
        x.matter(1, 2);
        x.by(0, law(x, "s:1;d:2"));
        x.heed(1, 0, 3);
        x.heed(2, 0, 4);
        x.minded(0, mind(x, "n:1-w"));
        x.minded(1, mind(x, "n:t=1?1;n:e=3?1;n:0"));
        due("e once", x.talk(0, 3), 4);
        x.minded(2, mind(x, "n:t=2&o=4?1;n:0"));
        due("o once", x.talk(0, 3), 5);
        // c: another one of its ways, or else the greatest hold
        TreeTalk y = tree(30);
        y.matter(1, 4);
        y.ground(0, 1);
        y.hold(0, 0, 0, 2, 2);
        y.by(0, law(y, "s:1-k"));
        int[] wants = {0, 2, 2, 3, 2, 2};
        for (int c = 0; c < 6; c++) {
            y.minded(0, mind(y, c == 5 ? "n:1;c:0-1" : "n:1;c:" + c));
            due("c:" + c, y.talk(0, 2), wants[c]);
        }
        y.minded(0, mind(y, "n:1;c:k+a+f+q+g+e+o;c:3"));
        due("letters of c", y.talk(0, 2), 0);
        y.minded(0, mind(y, "n:1;c:t+w+h"));
        due("letters of c", y.talk(0, 2), 3);
        TreeTalk z = tree(30);
        z.matter(1, 4);
        z.by(0, law(z, "s:1-k"));
        z.minded(0, mind(z, "n:1"));
        due("of several the lowest", z.talk(0, 2), 1);
        z.hold(0, 0, 0, 0, 2);
        due("but that on the ground", z.talk(0, 2), 1);
        z.hold(0, 0, 0, 1, 0);
        due("not one it cannot bear", z.talk(0, 2), 2);
        z.hold(0, 0, 0, 2, 0);
        z.hold(0, 0, 0, 3, 0);
        due("where it can bear none", z.talk(0, 2), 1);
    }

    private static void words() {
        of = "promise 23";
        TreeTalk x = tree(30, 20);
        x.matter(2, 3);
        x.hold(0, 0, 1, 0, 0);
        x.hold(1, 0, 0, 0, 0);
        x.hold(1, 0, 0, 2, 2);
        x.hold(1, 0, 1, 1, 0);
        int[][] want = {{1, 1, 0, 0, 2}, {0, 1, 1, 0, 1}, {1, 2, 1, 1, 0}, {0, 2, 1, 0, 1}, {1, 3, 1, 1, 0}, {0, 3, 1, 0, 1}};
        due("how many", x.talk(0, 3), want.length);
        for (int i = 0; i < want.length; i++) {
            for (int what = 0; what < 5; what++) {
                int n = i;
                int w = what;
                due("said(0, " + i + ", " + what + ")", orThrows(() -> x.said(0, n, w)), want[i][what]);
            }
        }
        for (int w : WILD) {
            due("no matter", orThrows(() -> x.said(w, 0, 0)), THROWS);
            due("no word", orThrows(() -> x.said(0, w, 0)), THROWS);
            due("no such", orThrows(() -> x.said(0, 0, w)), THROWS);
        }
        due("no word", orThrows(() -> x.said(0, 6, 0)), THROWS);
        due("no such", orThrows(() -> x.said(0, 0, 5)), THROWS);
        due("no matter", orThrows(() -> x.said(1, 0, 0)), THROWS);
    }

    private static void promises() {
        of = "promise 24";
        TreeTalk x = tree(30, 40);
        x.matter(2, 2);
        no("to itself", x.promise(0, 0, 0, 0, 0));
        for (int w : WILD) {
            no("wild promise", x.promise(w, 0, 0, 0, 0) | x.promise(0, w, 0, 0, 0) | x.promise(0, 1, w, 0, 0)
                | x.promise(0, 1, 0, w, 0) | x.promise(0, 1, 0, 0, w));
        }
        no("part 2", x.promise(0, 1, 0, 2, 0));
        no("way 2", x.promise(0, 1, 0, 0, 2));
        due("count", x.count(6), 0);
        for (int i = 0; i < 20; i++) {
            yes("promise", x.promise(0, 1, 0, 1, i < 5 ? 0 : 1));
        }
        no("one more", x.promise(1, 0, 0, 0, 0));
        due("count", x.count(6), 20);
        of = "promise 25";
        due("kept", x.promised(0, true), 5);
        due("broken", x.promised(0, false), 15);
        due("kept of another", x.promised(1, true), 0);
        due("broken of another", x.promised(1, false), 0);
        x.ground(0, 1);
        due("kept", x.promised(0, true), 15);
        for (int w : WILD) {
            due("no such elder", x.promised(w, true), NONE);
            due("no such elder", x.promised(w, false), NONE);
        }
        due("no such elder", x.promised(2, true), NONE);
        // a talk that does not rest keeps nothing
        TreeTalk y = quarrel("d:1");
        y.promise(0, 1, 0, 0, 0);
        dueTalk("over", y, 0, 1, 1, 0, 2);
        due("broken by a talk that is over", y.promised(0, false), 1);
        y.by(0, law(y, "s:0"));
        due("kept by one that rests", y.promised(0, true), 1);
        y.by(0, law(y, "s:0;l:0"));
        due("broken by silence", y.promised(0, false), 1);
        y.by(0, NONE);
        due("broken by a round", y.promised(0, false), 1);
    }

    private static void promiseGains() {
        of = "promise 24";
        TreeTalk x = tree(30, 40);
        x.matter(1, 2);
        x.matter(1, 2);
        x.matter(1, 2);
        x.minded(1, mind(x, "n:g=0?0;n:h+1-w*9;c:1"));
        due("no promise", x.talk(1, 3), 0);
        x.promise(1, 0, 0, 0, 0);
        due("of it, not to it", x.talk(1, 3), 0);
        x.promise(0, 1, 2, 0, 0);
        due("in a higher matter", x.talk(1, 3), 0);
        x.promise(0, 1, 1, 0, 0);
        due("in that matter", x.talk(1, 3), 0);
        due("but in the next", x.talk(2, 3) > 0 ? 1 : 0, 1);
        x.promise(0, 1, 0, 0, 1);
        due("a broken one", x.talk(1, 3) > 0 ? 1 : 0, 1);
        x.promise(0, 1, 0, 0, 0);
        due("a kept one and a broken one", x.talk(1, 3), 0);
    }

    private static void all() {
        of = "promise 26";
        TreeTalk x = tree(30, 40);
        x.matter(2, 3);
        due("all", x.all(0, NONE), 9);
        x.hold(0, 0, 0, 0, 0);
        x.hold(1, 0, 1, 1, 0);
        x.clash(1, 0, 0, 2, 1, 2);
        int[] want = {4, 6, 8};
        due("all", x.all(0, NONE), 3);
        for (int i = 0; i < 3; i++) {
            due("all(0, " + i + ")", x.all(0, i), want[i]);
        }
        due("all(0, 3)", x.all(0, 3), NONE);
        due("all(0, -2)", x.all(0, -2), NONE);
        due("all(0, least)", x.all(0, Integer.MIN_VALUE), NONE);
        due("all(0, most)", x.all(0, Integer.MAX_VALUE), NONE);
        for (int w : WILD) {
            due("no matter", x.all(w, NONE), NONE);
        }
        due("no matter", x.all(1, NONE), NONE);
        x.left(1, true);
        due("who left", x.all(0, NONE), 6);
    }

    private static void fair() {
        of = "promise 27";
        TreeTalk x = tree(30, 40, 50);
        x.matter(2, 4);
        for (int w : WILD) {
            due("no matter", x.fair(w), NONE);
        }
        due("lowest", x.fair(0), 0);
        // way 0 of part 0: losses 3 0 0, way 1: 2 2 2, way 2: 2 2 0, way 3: 0 2 2 (not lower)
        x.care(0, 0, 0, 3);
        x.care(1, 0, 0, 2);
        x.care(2, 0, 0, 2);
        x.hold(1, 0, 0, 0, 2);
        x.hold(2, 0, 0, 0, 2);
        x.hold(0, 0, 0, 3, 2);
        due("the least greatest", x.fair(0), 12);
        x.hold(1, 0, 0, 2, 2);
        x.hold(0, 0, 0, 2, 2);
        due("the next greatest", x.fair(0), 8);
        x.hold(2, 0, 1, 1, 2);
        x.care(2, 0, 1, 1);
        due("the sum of parts", x.fair(0), 9);
        x.hold(0, 0, 0, 2, 0);
        due("all must bear it", x.fair(0) >> 2 != 2 ? 1 : 0, 1);
        for (int w = 0; w < 4; w++) {
            x.hold(2, 0, 1, w, 0);
        }
        due("none", x.fair(0), NONE);
        x.left(2, true);
        due("who left", x.fair(0) == NONE ? 0 : 1, 1);
    }

    /** Of two proposals one, with losses 35 0 0, is worse than the other, with losses 34 34 0. */
    private static void fairGreatLosses() {
        TreeTalk x = tree(30, 40, 50, 60);
        x.matter(4, 2);
        for (int p = 0; p < 4; p++) {
            x.hold(0, 0, p, 1, 2);
            x.care(0, 0, p, p == 0 ? 8 : 9);
            for (int e = 1; e < 3; e++) {
                x.hold(e, 0, p, 0, 2);
                x.care(e, 0, p, p < 2 ? 8 : 9);
            }
        }
        for (int p = 0; p < 3; p++) {
            x.clash(3, 0, p, 0, p + 1, 1);
            x.clash(3, 0, p, 1, p + 1, 0);
        }
        due("two", x.all(0, NONE), 2);
        due("loss by way 0", x.loss(0, 0, 0), 35);
        due("loss by way 1", x.loss(1, 0, 85), 34);
        due("great losses", x.fair(0), 85);
    }

    private static void barred() {
        of = "promise 28";
        TreeTalk x = tree(30, 40, 50, 60);
        x.matter(1, 3);
        for (int w : WILD) {
            due("no matter", x.barred(w), NONE);
        }
        due("all have some", x.barred(0), NONE);
        // way 0 is barred by 1 and 2, way 1 by 0 and 3, way 2 by 1 and 3
        int[][] no = {{1, 0}, {2, 0}, {0, 1}, {3, 1}, {1, 2}, {3, 2}};
        for (int[] n : no) {
            x.hold(n[0], 0, 0, n[1], 0);
        }
        due("of several that with the lower elder", x.barred(0), 9);
        x.left(0, true);
        due("the fewest", x.barred(0), 8);
        x.left(3, true);
        due("way 1 then", x.barred(0), NONE);
        TreeTalk y = tree(30);
        y.matter(2, 2);
        for (int i = 0; i < 4; i++) {
            y.clash(0, 0, 0, i / 2, 1, i % 2);
        }
        due("by clashes", y.barred(0), 1);
    }

    private static void leftOpen() {
        of = "promise 29";
        TreeTalk x = tree(30, 40);
        x.matter(4, 2);
        for (int w : WILD) {
            due("no matter", x.open(w), NONE);
        }
        due("nothing", x.open(0), 0);
        x.hold(0, 0, 2, 0, 0);
        x.hold(1, 0, 2, 1, 0);
        due("part 2", x.open(0), 4);
        for (int i = 0; i < 4; i++) {
            x.clash(0, 0, 1, i / 2, 3, i % 2);
        }
        due("part 2 and the lower of 1 and 3", x.open(0), 6);
        x.hold(0, 0, 3, 0, 0);
        x.hold(0, 0, 3, 1, 0);
        due("parts 2 and 3", x.open(0), 12);
        x.left(1, true);
        due("who left", x.open(0), 8);
        x.left(0, true);
        due("nobody", x.open(0), 0);
        x.left(0, false);
        for (int p = 0; p < 3; p++) {
            x.hold(0, 0, p, 0, 0);
            x.hold(0, 0, p, 1, 0);
        }
        due("all parts", x.open(0), 15);
        TreeTalk y = tree(30);
        y.matter(3, 2);
        clashAll(y, 0, 2);
        clashAll(y, 1, 2);
        due("part 2, not 0 and 1", y.open(0), 4);
        y.matter(4, 2);
        clashAll(y, 1, 0, 1);
        clashAll(y, 1, 0, 2);
        clashAll(y, 1, 3, 1);
        clashAll(y, 1, 3, 2);
        due("parts 0 and 3, not 1 and 2", y.open(1), 9);
    }

    /** No way of one part of a matter (the first, if none is told) with any way of another one. */
    private static void clashAll(TreeTalk x, int... where) {
        int n = where.length;
        for (int i = 0; i < 4; i++) {
            x.clash(0, n == 3 ? where[0] : 0, where[n - 2], i / 2, where[n - 1], i % 2);
        }
    }

    private static void gifts() {
        of = "promise 30";
        TreeTalk x = tree(30);
        x.matter(2, 2);
        x.matter(1, 3);
        due("one matter", x.gift(0, 0, 0, 0, 0, 1, 0), NONE);
        for (int w : WILD) {
            due("no elder", x.gift(w, 0, 0, 0, 1, 0, 0), NONE);
            due("no matter", x.gift(0, w, 0, 0, 1, 0, 0), NONE);
            due("no part", x.gift(0, 0, w, 0, 1, 0, 0), NONE);
            due("no way", x.gift(0, 0, 0, w, 1, 0, 0), NONE);
            due("no other", x.gift(0, 0, 0, 0, w, 0, 0), NONE);
            due("no part of it", x.gift(0, 0, 0, 0, 1, w, 0), NONE);
            due("no way of it", x.gift(0, 0, 0, 0, 1, 0, w), NONE);
        }
        due("way 2 of the first", x.gift(0, 0, 0, 2, 1, 0, 0), NONE);
        due("part 1 of the second", x.gift(0, 0, 0, 0, 1, 1, 0), NONE);
        due("way 2 of the second", x.gift(0, 0, 1, 1, 1, 0, 2), 0);
        for (int i = 1; i < 8; i++) {
            due("gift", x.gift(0, 1, 0, 0, 0, 0, 0), i);
        }
        due("one more", x.gift(0, 1, 0, 0, 0, 0, 0), NONE);
        due("count", x.count(7), 8);
    }

    private static void trades() {
        of = "promise 31";
        TreeTalk x = tree(30, 40);
        x.matter(2, 2);
        x.matter(2, 3);
        due("one matter", x.trade(0, 0), NONE);
        for (int w : WILD) {
            due("no first", x.trade(w, 0), NONE);
            due("no second", x.trade(0, w), NONE);
        }
        due("no gift is needed", x.trade(0, 1), 0);
        x.hold(0, 0, 0, 0, 0);
        x.hold(0, 0, 0, 1, 0);
        due("none", x.trade(0, 1), NONE);
        x.gift(1, 0, 0, 0, 1, 0, 0);
        due("of another elder", x.trade(0, 1), NONE);
        x.gift(0, 1, 0, 0, 0, 0, 0);
        due("the other way round", x.trade(0, 1), NONE);
        x.gift(0, 0, 0, 1, 1, 0, 2);
        due("one", x.trade(0, 1), 4);
        x.gift(0, 0, 0, 0, 1, 0, 1);
        due("the lower one of two", x.trade(0, 1), 4);
        x.hold(1, 1, 0, 2, 0);
        due("its way must be borne in the second", x.trade(0, 1), 8);
        x.clash(0, 0, 0, 0, 1, 0);
        due("past a clash", x.trade(0, 1), 8);
        x.clash(0, 0, 0, 0, 1, 1);
        due("a gift lifts no clash", x.trade(0, 1), NONE);
        x.hold(1, 1, 0, 2, 1);
        due("the first again", x.trade(0, 1), 4);
        x.left(0, true);
        due("who left needs none", x.trade(0, 1), 0);
        x.left(0, false);
        // two needed together, whose ways must stand together in the second
        TreeTalk y = tree(30, 40);
        y.matter(1, 2);
        y.matter(2, 3);
        for (int e = 0; e < 2; e++) {
            y.hold(e, 0, 0, 0, 0);
            y.hold(e, 0, 0, 1, 0);
        }
        y.gift(0, 0, 0, 0, 1, 0, 0);
        y.gift(1, 0, 0, 0, 1, 0, 1);
        due("ways that exclude each other", y.trade(0, 1), NONE);
        y.gift(1, 0, 0, 1, 1, 1, 1);
        due("ways of two parts, but of two ways", y.trade(0, 1), NONE);
        y.gift(0, 0, 0, 1, 1, 0, 2);
        due("both of way 1", y.trade(0, 1), 12);
        y.gift(1, 0, 0, 0, 1, 1, 2);
        due("the set with the lower gift", y.trade(0, 1), 17);
        y.clash(0, 1, 0, 0, 1, 2);
        due("a clash in the second", y.trade(0, 1), 12);
        TreeTalk z = tree(30, 40);
        z.matter(1, 2);
        z.matter(1, 2);
        z.matter(1, 2);
        z.hold(0, 0, 0, 0, 0);
        z.hold(0, 0, 0, 1, 0);
        z.gift(0, 0, 0, 0, 2, 0, 0);
        due("from a third matter", z.trade(0, 1), NONE);
        due("from that matter", z.trade(0, 2), 1);
        z.hold(1, 2, 0, 0, 0);
        z.hold(1, 2, 0, 1, 0);
        due("no proposal of the second", z.trade(1, 2), NONE);
    }

    private static void hands() {
        of = "promise 32";
        TreeTalk x = tree(30, 40, 50);
        x.matter(1, 4);
        for (int w : WILD) {
            due("no matter", x.hands(w, 0), NONE);
            due("no such", x.hands(0, w), NONE);
        }
        due("no such", x.hands(0, 3), NONE);
        due("lowest", x.hands(0, 0), 0);
        due("nobody bound", x.hands(0, 1), 0);
        due("three", x.hands(0, 2), 3);
        x.hold(0, 0, 0, 0, 0);
        x.hold(1, 0, 0, 0, 0);
        x.hold(0, 0, 0, 1, 0);
        x.hold(2, 0, 0, 2, 0);
        x.hold(2, 0, 0, 3, 0);
        x.hold(1, 0, 0, 3, 0);
        due("most hands", x.hands(0, 0), 1);
        due("bound", x.hands(0, 1), 1);
        due("two", x.hands(0, 2), 2);
        x.hold(1, 0, 0, 2, 2);
        due("the least sum of losses", x.hands(0, 0), 2);
        due("bound", x.hands(0, 1), 4);
        x.hold(2, 0, 0, 1, 2);
        x.care(2, 0, 0, 2);
        due("losses of the bound count too", x.hands(0, 0), 1);
        x.left(2, true);
        due("who left", x.hands(0, 0), 2);
        due("who left", x.hands(0, 1), 0);
        due("who left", x.hands(0, 2), 2);
    }

    private static void asides() {
        of = "promise 33";
        TreeTalk x = tree(30, 40);
        x.matter(2, 2);
        no("to nobody", x.aside(0, 0, 0, 0, 0, true));
        no("to no such one", x.aside(0, 4, 0, 0, 0, true));
        no("to one and no such one", x.aside(0, 6, 0, 0, 0, true));
        for (int w : WILD) {
            no("wild", x.aside(w, 1, 0, 0, 0, true) | x.aside(0, w, 0, 0, 0, true) | x.aside(0, 1, w, 0, 0, true)
                | x.aside(0, 1, 0, w, 0, true) | x.aside(0, 1, 0, 0, w, true));
        }
        no("part 2", x.aside(0, 1, 0, 2, 0, true));
        no("way 2", x.aside(0, 1, 0, 0, 2, true));
        due("count", x.count(8), 0);
        yes("to itself too", x.aside(0, 3, 0, 0, 0, true));
        yes("to itself alone", x.aside(0, 1, 0, 0, 0, true));
        for (int i = 2; i < 60; i++) {
            yes("aside", x.aside(0, 2, 0, 1, 1, i % 2 == 0));
        }
        no("one more", x.aside(0, 2, 0, 1, 1, true));
        due("count", x.count(8), 60);
        due("the last counts", x.taken(1, 0, 0, 1, 1), 0);
    }

    private static void taken() {
        of = "promise 34";
        TreeTalk x = tree(30, 40, 50);
        x.matter(2, 2);
        x.matter(2, 2);
        for (int w : WILD) {
            due("no one", x.taken(w, 0, 0, 0, 0), NONE);
            due("no other", x.taken(0, w, 0, 0, 0), NONE);
            due("no matter", x.taken(0, 1, w, 0, 0), NONE);
            due("no part", x.taken(0, 1, 0, w, 0), NONE);
            due("no way", x.taken(0, 1, 0, 0, w), NONE);
        }
        due("alike", x.taken(1, 1, 0, 0, 0), NONE);
        x.hold(1, 0, 0, 1, 2);
        due("at first", x.taken(0, 1, 0, 0, 1), 1);
        x.aside(1, 1, 0, 0, 1, false);
        due("heard", x.taken(0, 1, 0, 0, 1), 0);
        due("not heard", x.taken(2, 1, 0, 0, 1), 1);
        due("of another way", x.taken(0, 1, 0, 0, 0), 1);
        due("of another part", x.taken(0, 1, 0, 1, 1), 1);
        due("of another elder", x.taken(0, 2, 0, 0, 1), 1);
        due("of another matter", x.taken(0, 1, 1, 0, 1), 1);
        x.aside(1, 5, 0, 0, 1, true);
        due("the later one", x.taken(0, 1, 0, 0, 1), 1);
        // the talk comes behind all asides, its later word counts
        x.hold(1, 0, 0, 0, 0);
        x.aside(1, 5, 0, 0, 0, true);
        due("no", x.taken(0, 1, 0, 0, 0), 0);
        due("for", x.taken(0, 1, 0, 0, 1), 2);
        due("all heard", x.taken(2, 1, 0, 0, 1), 2);
        x.left(2, true);
        due("who left heard too", x.taken(2, 1, 0, 0, 1), 2);
        x.left(1, true);
        due("of one that left by asides", x.taken(0, 1, 0, 0, 1), 1);
        TreeTalk y = quarrel("d:2");
        y.minded(0, mind(y, "n:1"));
        y.minded(1, mind(y, "n:w=1&t=1?1;n:0"));
        due("for, then no to it", y.taken(1, 0, 0, 0, 1), 2);
        y.minded(1, mind(y, "n:0"));
        dueTalk("back and forth", y, 0, 1, 2, 0, 2);
        due("the later word is no", y.taken(1, 0, 0, 0, 1), 0);
        due("the later word is for", y.taken(1, 0, 0, 0, 0), 2);
    }

    private static void twice() {
        of = "promise 35";
        TreeTalk x = tree(30, 40, 50);
        x.matter(1, 3);
        for (int w : WILD) {
            due("wild", x.twice(w, 1, 2, 0, 0, 0), NONE);
            due("wild", x.twice(0, w, 2, 0, 0, 0), NONE);
            due("wild", x.twice(0, 1, w, 0, 0, 0), NONE);
            due("wild", x.twice(0, 1, 2, w, 0, 0), NONE);
            due("wild", x.twice(0, 1, 2, 0, w, 0), NONE);
            due("wild", x.twice(0, 1, 2, 0, 0, w), NONE);
        }
        due("alike", x.twice(0, 0, 2, 0, 0, 0), NONE);
        due("alike", x.twice(0, 1, 1, 0, 0, 0), NONE);
        due("alike", x.twice(0, 1, 0, 0, 0, 0), NONE);
        due("at first", x.twice(0, 1, 2, 0, 0, 1), 1);
        x.aside(2, 1, 0, 0, 1, false);
        due("one heard", x.twice(0, 1, 2, 0, 0, 1), 1);
        x.aside(2, 2, 0, 0, 1, false);
        due("each for itself", x.twice(0, 1, 2, 0, 0, 1), 1);
        x.aside(2, 3, 0, 0, 1, false);
        due("both heard", x.twice(0, 1, 2, 0, 0, 1), 0);
        due("in the other order", x.twice(1, 0, 2, 0, 0, 1), 0);
        due("of another", x.twice(1, 2, 0, 0, 0, 1), 1);
        x.aside(2, 7, 0, 0, 1, true);
        due("the later one", x.twice(0, 1, 2, 0, 0, 1), 1);
        x.hold(2, 0, 0, 0, 0);
        x.hold(2, 0, 0, 2, 2);
        due("the talk: no", x.twice(0, 1, 2, 0, 0, 0), 0);
        due("the talk: for", x.twice(0, 1, 2, 0, 0, 2), 2);
    }

    private static void mistaken() {
        of = "promise 36";
        TreeTalk x = tree(30, 40);
        x.matter(2, 3);
        for (int w : WILD) {
            due("no one", x.mistaken(w, 0, 0), NONE);
            due("no other", x.mistaken(0, w, 0), NONE);
            due("no matter", x.mistaken(0, 1, w), NONE);
        }
        due("alike", x.mistaken(0, 0, 0), NONE);
        due("at first", x.mistaken(0, 1, 0), 0);
        x.hold(1, 0, 1, 2, 2);
        x.hold(1, 0, 1, 1, 0);
        due("two", x.mistaken(0, 1, 0), 2);
        due("the other way", x.mistaken(1, 0, 0), 0);
        x.aside(1, 1, 0, 1, 1, false);
        due("told one", x.mistaken(0, 1, 0), 1);
        x.aside(1, 1, 0, 0, 0, false);
        due("told wrong", x.mistaken(0, 1, 0), 2);
        x.ground(0, 1);
        due("the talk tells both", x.mistaken(0, 1, 0), 1);
    }

    private static void about() {
        of = "promise 37";
        TreeTalk x = tree(30, 40);
        x.matter(2, 2);
        for (int w : WILD) {
            due("no elder", x.about(w, 0), NONE);
            due("no matter", x.about(0, w), NONE);
        }
        due("no word", x.about(0, 0), 0);
        x.hold(0, 0, 0, 0, 0);
        due("for a reason", x.about(0, 0), 0);
        x.hold(0, 0, 0, 0, 2);
        x.minded(0, mind(x, "n:k=0?1;n:0"));
        due("of a way it would have", x.about(0, 0), 1);
        due("of another", x.about(1, 0), 0);
        x.hold(0, 0, 0, 0, 1);
        due("of a way it can bear", x.about(0, 0), 1);
        x.clash(0, 0, 0, 0, 1, 0);
        due("of a clash", x.about(0, 0), 0);
        x.ground(0, 1);
        due("of no clash", x.about(0, 0), 1);
        // the ground then, not the one at the end
        TreeTalk y = tree(30);
        y.matter(2, 2);
        y.clash(0, 0, 0, 1, 1, 0);
        y.minded(0, mind(y, "n:k=0&q=0?1;n:k=1&q=1?1;n:0"));
        dueTalk("two words", y, 0, 0, 3, 5, 2);
        due("the first without need, the second for a clash", y.about(0, 0), 1);
    }

    private static void back() {
        of = "promise 38";
        TreeTalk x = tree(30, 40);
        x.matter(1, 3);
        for (int w : WILD) {
            due("no elder", x.back(w, 0, 0), NONE);
            due("no matter", x.back(0, w, 0), NONE);
            due("no such", x.back(0, 0, w), NONE);
        }
        x.hold(0, 0, 0, 1, 2);
        x.care(0, 0, 0, 4);
        due("the part", x.back(0, 0, 0), 0);
        due("the way", x.back(0, 0, 1), 0);
        due("by how much", x.back(0, 0, 2), 4);
        due("no such", x.back(0, 0, 3), NONE);
        due("another gains nothing", x.back(1, 0, 0), NONE);
        due("hold is as it was", x.held(0, 0, 0, 0), 1);
        due("the talk is as it was", x.talk(0, 3), 0);
        x.hold(1, 0, 0, 1, 0);
        x.hold(1, 0, 0, 0, 2);
        due("it would not rest better", x.back(0, 0, 0), NONE);
        x.hold(1, 0, 0, 1, 1);
        x.by(0, law(x, "l:0"));
        due("nobody fails", x.back(0, 0, 2), 4);
        x.left(0, true);
        due("who left gains nothing", x.back(0, 0, 0), NONE);
        // the lower part, then way, of those that gain alike; the greater gain before that
        TreeTalk y = tree(30);
        y.matter(3, 2);
        y.hold(0, 0, 1, 1, 2);
        y.hold(0, 0, 2, 1, 2);
        due("of two parts the lower", y.back(0, 0, 0), 1);
        y.care(0, 0, 2, 2);
        due("by most", y.back(0, 0, 0), 2);
        due("by most", y.back(0, 0, 2), 2);
        due("a way that it would have is none", y.back(0, 0, 1), 0);
        y.hold(0, 0, 1, 0, 2);
        y.hold(0, 0, 2, 0, 2);
        due("nothing lost, nothing gained", y.back(0, 0, 0), NONE);
        // now it must rest
        TreeTalk z = quarrel("d:1");
        z.hold(0, 0, 0, 1, 2);
        due("now it does not rest", z.back(0, 0, 0), NONE);
        // a no that fails by silence is no gain
        TreeTalk v = tree(30);
        v.matter(2, 2);
        v.hold(0, 0, 1, 1, 2);
        v.by(0, law(v, "s:0;l:0"));
        due("by silence", v.back(0, 0, 0), NONE);
    }

    private static void leans() {
        of = "promise 39";
        TreeTalk x = tree(20, 30, 40);
        x.matter(2, 3);
        for (int w : WILD) {
            due("no matter", x.leans(w, 0), NONE);
            due("no proposal", x.leans(0, w), NONE);
        }
        due("no proposal", x.leans(0, 3), NONE);
        due("nobody spoke", x.leans(0, 10), 0);
        // 0 says for way 1 of part 0, then 1 and 2 for way 2 of it
        x.hold(0, 0, 0, 0, 0);
        x.hold(1, 0, 0, 1, 0);
        x.hold(1, 0, 0, 2, 2);
        due("two ways alike", x.leans(0, 4), 0);
        due("two ways alike", x.leans(0, 8), 0);
        due("the third way", x.leans(0, 0), 1);
        x.hold(2, 0, 0, 2, 0);
        due("of 1 twice", x.talk(0, 3) > 3 ? 1 : 0, 1);
        due("elders count, not words", x.leans(0, 4), 0);
        due("part 1 counts not", x.leans(0, 5), 0);
        due("part 0 alone", x.leans(0, 10), x.leans(0, 8));
        TreeTalk y = tree(20, 30);
        y.matter(2, 2);
        y.hold(0, 0, 0, 0, 0);
        y.hold(1, 0, 1, 0, 0);
        due("none", y.leans(0, 5), 0);
        due("one", y.leans(0, 4), 1);
        due("both", y.leans(0, 0), 2);
        // one elder twice for way 1, two elders once for way 0
        TreeTalk z = tree(20, 30, 40);
        z.matter(1, 2);
        z.by(0, law(z, "s:1;d:3"));
        z.minded(0, mind(z, "n:1-w"));
        z.minded(1, mind(z, "n:t=1?w;n:0"));
        z.minded(2, mind(z, "n:t=2?w;n:0"));
        due("words", z.talk(0, 3), 5);
        due("two for way 0", z.leans(0, 0), 0);
        due("one, thrice, for way 1", z.leans(0, 1), 1);
    }

    private static void mindsThatMayBe() {
        of = "promise 40";
        TreeTalk x = tree(30, 40);
        x.matter(2, 2);
        for (int w : WILD) {
            due("no elder", x.minds(w, 0), NONE);
            due("no matter", x.minds(0, w), NONE);
        }
        due("no minds", x.minds(0, 0), 0);
        mind(x, "n:1");
        mind(x, "n:0");
        mind(x, "c:1");
        mind(x, "n:h=0?1;n:0");
        mind(x, "n:q=1&w=0?1;n:0");
        due("who said nothing", x.minds(0, 0), 2 | 4 | 8);
        x.hold(0, 0, 1, 0, 0);
        due("who said no to part 1", x.minds(0, 0), 4 | 8 | 16);
        due("the other heard it", x.minds(1, 0), 2 | 4 | 8 | 16);
        x.minded(0, 0);
        x.by(0, law(x, "s:1-k"));
        due("one look, a no to part 0", x.minds(0, 0), 1);
        x.by(0, law(x, "s:0"));
        due("no look", x.minds(0, 0), 31);
        x.left(0, true);
        due("who left", x.minds(0, 0), 31);
        due("the talk is as it was", x.talk(0, 3), 0);
        mind(x, "n:g<0?1;n:0");
        x.left(0, false);
        x.by(0, NONE);
        x.minded(0, NONE);
        x.hold(0, 0, 1, 0, 1);
        x.matter(1, 2);
        due("without a promise", x.minds(0, 1) >> 5, 1);
        x.promise(1, 0, 0, 0, 1);
        due("with a broken one", x.minds(0, 1) >> 5, 0);
    }

    private static void counts() {
        of = "promise 41";
        TreeTalk x = tree(30, 40, 50);
        x.left(1, true);
        x.matter(2, 2);
        x.matter(1, 3);
        x.clash(0, 0, 0, 0, 1, 1);
        law(x, "s:1");
        law(x, "s:2");
        mind(x, "n:1");
        x.promise(0, 1, 0, 0, 0);
        x.gift(0, 0, 0, 0, 1, 0, 0);
        x.gift(0, 0, 0, 0, 1, 0, 0);
        x.aside(0, 1, 0, 0, 0, true);
        write(x, "n:12345");
        int[] want = {3, 2, 2, 1, 2, 1, 1, 2, 1, 7};
        for (int i = 0; i < 10; i++) {
            due("count(" + i + ")", x.count(i), want[i]);
        }
        due("count(10)", x.count(10), NONE);
        for (int w : WILD) {
            due("count(" + w + ")", x.count(w), NONE);
        }
    }
}
