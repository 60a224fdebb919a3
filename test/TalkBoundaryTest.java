/** The bounds of a talk and of promises: a test for each sentence that names one. */
public final class TalkBoundaryTest extends Bench {
    private TalkBoundaryTest() {
    }

    public static void main(String[] args) {
        sentence("A MATTER has a LAW, or none (at first); an ELDER a MIND, or none (at first).", TalkBoundaryTest::noneAtFirst);
        sentence("TALK of a MATTER, from its GROUND (a PROPOSAL, told; 0 at first)", TalkBoundaryTest::ground);
        sentence("DAY by DAY (1 ..), ELDERS that have not LEFT as they sit.", TalkBoundaryTest::asTheySit);
        sentence("a talk gone through day by day, the eldest last, each no with what would do instead", TalkBoundaryTest::goneThroughAnew);
        sentence("One whose turn it is MAY speak, if WORTH of s is unlike 0", TalkBoundaryTest::worthOfS);
        sentence("(without one: if it spoke less than three times in this TALK)", TalkBoundaryTest::lessThanThreeTimes);
        sentence("a how many sit ahead of it, k how often it spoke, t the DAY, f how often was spoken this DAY, m how many sit.",
            TalkBoundaryTest::lettersOfS);
        sentence("It looks at the PARTS, rising, by the WAY on the ground: it says NO to the first one for which its MIND's WORTH of n is unlike 0",
            TalkBoundaryTest::worthOfN);
        sentence("(without one: if it cannot bear the WAY, or there is a CLASH of its of that WAY with what is on the ground)",
            TalkBoundaryTest::withoutWorthOfN);
        sentence("e the sum of its HEED for ELDERS that said FOR that WAY of that PART in this TALK, o likewise that said NO to it (each once)",
            TalkBoundaryTest::heeded);
        sentence("q the PART, w the WAY", TalkBoundaryTest::partsAndWays);
        sentence("WORTH of c (letters as for n), if that is another one of its WAYS", TalkBoundaryTest::worthOfC);
        sentence("else the one with the greatest HOLD but that on the ground, of several the lowest.", TalkBoundaryTest::greatestHold);
        sentence("One that says no NO does not speak.", TalkBoundaryTest::noNo);
        sentence("if nobody spoke: it RESTS (0)", TalkBoundaryTest::rests);
        sentence("but if WORTH of l is told and 0 (t the DAY, m how many sit) and one that sits cannot BEAR the ground: it FAILS by silence (3).",
            TalkBoundaryTest::failsBySilence);
        sentence("Else, if it was DAY d (WORTH of d, letters m; 1 at least, 30 at most; without one 30): it is OVER (1).",
            TalkBoundaryTest::dayD);
        sentence("Else, if the ground, and who has said FOR and who NO to which WAYS, are as they were as an earlier DAY was over: it goes ROUND (2).",
            TalkBoundaryTest::round);
        sentence("The i-th word of a TALK: 0 who spoke, 1 the DAY, 2 the PART, 3 the WAY it said NO to, 4 the WAY it said FOR.",
            TalkBoundaryTest::words);
        sentence("PROMISES (20 at most): one ELDER promises another one a WAY of a PART of a MATTER.", TalkBoundaryTest::twentyPromises);
        sentence("It is KEPT, if the TALK of that MATTER RESTS with that WAY; else BROKEN.", TalkBoundaryTest::keptOrBroken);
        sentence("g, in a MATTER: of PROMISES to that ELDER in MATTERS of lower numbers: KEPT ones less BROKEN ones.",
            TalkBoundaryTest::gains);
        endTest("all bounds of talks hold");
    }

    private static void noneAtFirst() {
        TreeTalk x = quarrel(null);
        law(x, "s:0");
        mind(x, "n:0");
        due("by no law and no mind", x.talk(0, 3), 4);
        yes("a law", x.by(0, 0));
        due("by a law", x.talk(0, 3), 0);
        yes("none again", x.by(0, NONE));
        yes("none once more", x.by(0, NONE));
        due("by none", x.talk(0, 3), 4);
        yes("a mind", x.minded(0, 0));
        due("by one mind", x.talk(0, 3), 0);
        yes("none again", x.minded(0, NONE));
        yes("none once more", x.minded(0, NONE));
        due("by none", x.talk(0, 3), 4);
        TreeTalk y = quarrel(null);
        for (int i = 0; i < 8; i++) {
            law(y, "d:" + (i == 7 ? 1 : 2));
            mind(y, "n:" + (i == 7 ? 0 : 1));
        }
        no("a ninth law", y.by(0, 8));
        no("a ninth mind", y.minded(0, 8));
        yes("the eighth law", y.by(0, 7));
        due("the eighth law", y.talk(0, 3), 2);
        yes("the eighth mind", y.minded(0, 7));
        due("the eighth mind", y.talk(0, 3), 0);
    }

    private static void ground() {
        TreeTalk x = seated(1, 5, 4);
        due("at first", x.talk(0, 2), 0);
        yes("the last one", x.ground(0, 1023));
        due("the last one", x.talk(0, 2), 1023);
        for (int far : new int[] {1024, -1, LEAST, MOST}) {
            no("ground " + far, x.ground(0, far));
        }
        due("refused", x.talk(0, 2), 1023);
        yes("the first one", x.ground(0, 0));
        due("the first one", x.talk(0, 2), 0);
        TreeTalk y = seated(0, 2, 2);
        yes("the last of four", y.ground(0, 5));
        no("a digit too high", y.ground(0, 2));
        no("a digit too high", y.ground(0, 8));
        due("where nobody sits", y.talk(0, 2), 5);
        x.hold(0, 0, 0, 0, 0);
        due("the talk begins there", x.talk(0, 2), 256);
        yes("and again", x.ground(0, 512));
        due("the talk begins there", x.talk(0, 2), 512);
    }

    private static void asTheySit() {
        TreeTalk x = tree(99, 20, 50, 20);
        x.matter(4, 2);
        x.by(0, law(x, "s:1-k"));
        int m = mind(x, "n:q=a?1;n:0");
        for (int e = 0; e < 4; e++) {
            x.minded(e, m);
        }
        int[] order = {1, 3, 2, 0};
        for (int i = 0; i < 4; i++) {
            due("word " + i, x.said(0, i, 0), order[i]);
            due("on DAY 1", x.said(0, i, 1), 1);
            due("by its place", x.said(0, i, 2), i);
        }
        dueTalk("all spoke once", x, 0, 0, 2, 85, 4);
        x.left(1, true);
        x.left(2, true);
        dueTalk("two left", x, 0, 0, 2, 80, 2);
        due("the youngest", x.said(0, 0, 0), 3);
        due("the eldest last", x.said(0, 1, 0), 0);
        x.left(0, true);
        x.left(3, true);
        dueTalk("all left", x, 0, 0, 1, 0, 0);
        x.left(1, false);
        dueTalk("one is back", x, 0, 0, 2, 64, 1);
    }

    /** How many words there are of one who can bear no way 0 of four parts, by a law. */
    private static int wordsBy(String law) {
        TreeTalk x = seated(1, 4, 2);
        for (int p = 0; p < 4; p++) {
            x.hold(0, 0, p, 0, 0);
        }
        x.by(0, law == null ? NONE : law(x, law));
        return x.talk(0, 3);
    }

    /** Each call that a talk leans on, behind a talk that was gone through. */
    private static void goneThroughAnew() {
        TreeTalk x = seated(1, 2, 2);
        law(x, "s:1-k;d:m");
        mind(x, "n:e=3?1;n:g>0?1;n:h=0?1;n:0");
        x.matter(2, 2);
        dueTalk("at first", x, 0, 0, 1, 0, 0);
        x.hold(0, 0, 0, 0, 0);
        dueTalk("hold", x, 0, 0, 2, 4, 1);
        x.ground(0, 4);
        dueTalk("ground", x, 0, 0, 1, 4, 0);
        x.clash(0, 0, 0, 1, 1, 0);
        dueTalk("clash", x, 0, 0, 4, 0, 3);
        x.by(0, 0);
        dueTalk("by", x, 0, 1, 1, 0, 1);
        x.elder(90);
        dueTalk("elder", x, 0, 0, 2, 0, 1);
        x.left(1, true);
        dueTalk("left", x, 0, 1, 1, 0, 1);
        x.left(1, false);
        dueTalk("back", x, 0, 0, 2, 0, 1);
        x.minded(1, 0);
        dueTalk("minded", x, 0, 0, 2, 0, 1);
        x.heed(1, 0, 3);
        dueTalk("heed", x, 0, 0, 2, 4, 2);
        dueTalk("the other one", x, 1, 0, 1, 0, 0);
        x.promise(0, 1, 0, 1, 0);
        yes("a kept promise", x.talk(1, 3) > 0);
        x.promise(0, 1, 0, 0, 0);
        dueTalk("a broken one too", x, 1, 0, 1, 0, 0);
        x.heed(1, 0, 0);
        yes("both are kept now", x.talk(1, 3) > 0);
    }

    private static void worthOfS() {
        due("0", wordsBy("s:0"), 0);
        due("1", wordsBy("s:1"), 4);
        due("-1", wordsBy("s:0-1"), 4);
        due("the greatest", wordsBy("s:9999*9999"), 4);
        due("the least", wordsBy("s:0-9999*9999"), 4);
        due("by 0", wordsBy("s:1/0"), 0);
        due("cut towards 0", wordsBy("s:1/2"), 0);
        due("the first that holds", wordsBy("s:k<1?1;s:k<2?0-1;s:0"), 2);
    }

    private static void lessThanThreeTimes() {
        due("no law", wordsBy(null), 3);
        due("no s", wordsBy("d:30;l:0"), 3);
        due("none that holds", wordsBy("s:t=0?1"), 3);
        due("none that holds from the second day on", wordsBy("s:t=1?1"), 3);
        due("none that holds on the fourth day", wordsBy("s:t<4?1"), 3);
        due("none that holds before the fourth day", wordsBy("s:t>3?1"), 4);
        // in each talk of its own
        TreeTalk x = seated(1, 3, 2);
        x.matter(3, 2);
        for (int i = 0; i < 6; i++) {
            x.hold(0, i / 3, i % 3, 0, 0);
        }
        due("three times in one", x.talk(0, 3), 3);
        due("three times in the other", x.talk(1, 3), 3);
        // each for itself
        TreeTalk y = seated(2, 4, 3);
        for (int p = 0; p < 4; p++) {
            y.hold(0, 0, p, 0, 0);
            y.hold(1, 0, p, 1, 0);
            y.hold(1, 0, p, 2, 2);
        }
        due("three times each", y.talk(0, 3), 6);
    }

    /** Eight who sit by a law; a mind that always says no. */
    private static TreeTalk eightBy(String law) {
        TreeTalk x = seated(8, 1, 2);
        int m = mind(x, "n:1");
        for (int e = 0; e < 8; e++) {
            x.minded(e, m);
        }
        x.by(0, law(x, law));
        return x;
    }

    private static void dueSpeakers(String law, int... want) {
        TreeTalk x = eightBy(law);
        due("words by " + law, x.talk(0, 3), want.length / 2);
        for (int i = 0; i < want.length; i += 2) {
            int n = i / 2;
            due("who spoke by " + law, orThrows(() -> x.said(0, n, 0)), want[i]);
            due("the DAY by " + law, orThrows(() -> x.said(0, n, 1)), want[i + 1]);
        }
    }

    private static void lettersOfS() {
        dueSpeakers("s:a=0&k=0?1;s:0", 0, 1);
        dueSpeakers("s:a=7&k=0?1;s:0", 7, 1);
        dueSpeakers("s:a>7?1;s:0");
        dueSpeakers("s:a<0?1;s:0");
        dueSpeakers("s:a=3&k<2?1;s:0", 3, 1, 3, 2);
        dueSpeakers("s:a=3&k=1?1;s:0");
        dueSpeakers("s:a=3&t=1?1;s:0", 3, 1);
        dueSpeakers("s:a=3&t<1?1;s:0");
        dueSpeakers("s:a=3&t=30|a=2&t<3?1;s:0", 2, 1, 2, 2);
        dueSpeakers("s:t=1&f=0?1;s:0", 0, 1);
        dueSpeakers("s:t=1&f<2?1;s:0", 0, 1, 1, 1);
        dueSpeakers("s:t=1&a=7&f=0?1;s:0", 7, 1);
        dueSpeakers("s:t=1&f=a?1;s:0", 0, 1, 1, 1, 2, 1, 3, 1, 4, 1, 5, 1, 6, 1, 7, 1);
        dueSpeakers("s:t=1&f=7?1;s:0");
        dueSpeakers("s:t<3&(a=0|a=7&f=1)?1;s:0;d:2", 0, 1, 7, 1, 0, 2, 7, 2);
        dueSpeakers("s:m=8&a=1&k=0?1;s:0", 1, 1);
        dueSpeakers("s:m=7?1;s:0");
        TreeTalk x = eightBy("s:m=1&k=0?a+1;s:0");
        for (int e = 0; e < 7; e++) {
            x.left(e, true);
        }
        due("one sits", x.talk(0, 3), 1);
        due("the last one", x.said(0, 0, 0), 7);
    }

    /** The part of the first no of one with that mind; none if there is no word. */
    private static int firstNo(String mind) {
        TreeTalk x = seated(1, 5, 4);
        x.minded(0, mind(x, mind));
        x.hold(0, 0, 4, 0, 0);
        return x.talk(0, 3) == 0 ? NONE : x.said(0, 0, 2);
    }

    private static void worthOfN() {
        due("1", firstNo("n:1"), 0);
        due("-1", firstNo("n:0-1"), 0);
        due("the greatest", firstNo("n:9999*9999"), 0);
        due("the least", firstNo("n:0-9999*9999"), 0);
        due("0", firstNo("n:0"), NONE);
        due("the last part", firstNo("n:q=4?1;n:0"), 4);
        due("of two parts the first", firstNo("n:q=3|q=1?1;n:0"), 1);
        due("no part", firstNo("n:q>4?1;n:0"), NONE);
        due("by 0", firstNo("n:1/q"), 1);
        due("of one part it has no worth", firstNo("n:q<4?0"), 4);
        due("of all parts it has none", firstNo("c:1"), 4);
        TreeTalk x = seated(1, 1, 2);
        x.minded(0, mind(x, "n:t=1?1;n:0"));
        dueTalk("one word a day, one part of one", x, 0, 0, 2, 1, 1);
    }

    private static void withoutWorthOfN() {
        for (int v = 0; v <= 2; v++) {
            TreeTalk x = seated(1, 2, 2);
            x.hold(0, 0, 1, 0, v);
            due("HOLD " + v, x.talk(0, 3), v == 0 ? 1 : 0);
        }
        TreeTalk x = seated(2, 3, 2);
        x.clash(1, 0, 2, 0, 1, 0);
        due("a CLASH", x.talk(0, 3), 1);
        due("is seen at the lower part", x.said(0, 0, 2), 1);
        due("by the one whose it is", x.said(0, 0, 0), 1);
        x.ground(0, 1);
        due("with a WAY that is not on the ground", x.talk(0, 3), 0);
        x.ground(0, 4);
        due("of a WAY that is not on the ground", x.talk(0, 3), 0);
        x.ground(0, 0);
        x.left(1, true);
        due("of one that left", x.talk(0, 3), 0);
    }

    /** Seven speak for way 1 on a day each; the eighth answers each no, the last time by its letters. */
    private static TreeTalk heeding(String last) {
        TreeTalk x = seated(8, 1, 2);
        int m = mind(x, "n:w=0?1;n:0");
        for (int e = 0; e < 7; e++) {
            x.minded(e, m);
            x.heed(7, e, 9);
        }
        x.minded(7, mind(x, "n:w=1&t<7?1;n:t=7&" + last + "?1;n:0"));
        x.by(0, law(x, "s:a+1=t|a=7?1;s:0"));
        return x;
    }

    private static void heeded() {
        due("at first 0", heeding("e>0").talk(0, 3), 14);
        due("the greatest sum", heeding("e=63").talk(0, 3), 14);
        due("not more than that", heeding("e>63").talk(0, 3), 13);
        TreeTalk x = heeding("e=63");
        x.heed(7, 3, 8);
        due("one less", x.talk(0, 3), 13);
        TreeTalk y = heeding("e=54");
        y.heed(7, 6, 0);
        due("one not heeded", y.talk(0, 3), 14);
        due("said NO to the other way alone", heeding("o=0").talk(0, 3), 14);
        TreeTalk z = heeding("w=1&e>62|w=0&o=63&e=0");
        due("then all said NO to the other way", z.talk(0, 3), 15);
        z.heed(7, 0, 8);
        due("one less", z.talk(0, 3), 13);
        // one that says so twice counts once; one's own words count nothing
        TreeTalk v = seated(2, 1, 3);
        v.heed(1, 0, 4);
        v.by(0, law(v, "s:t<4?1;s:0"));
        v.minded(0, mind(v, "n:w=1?0;n:1;c:1"));
        v.minded(1, mind(v, "n:t<3?1;n:e=4&o=0?1;n:0;c:t=2?2;c:0"));
        due("each once", v.talk(0, 3), 6);
        v.heed(1, 0, 0);
        due("heed 0", v.talk(0, 3), 5);
        // in this talk, not as it was gone through before
        TreeTalk r = seated(2, 1, 2);
        r.heed(1, 0, 5);
        r.hold(0, 0, 0, 0, 0);
        r.minded(1, mind(r, "n:w=0&o=5?1;n:0"));
        due("said to way 0", r.talk(0, 3), 1);
        r.hold(0, 0, 0, 0, 1);
        due("not said any more", r.talk(0, 3), 0);
        TreeTalk u = seated(2, 1, 2);
        u.matter(1, 2);
        u.heed(1, 0, 9);
        u.hold(0, 0, 0, 0, 0);
        u.ground(1, 1);
        u.minded(1, mind(u, "n:e>0|o>0?1;n:0"));
        yes("here", u.talk(0, 3) > 1);
        due("nothing was said there", u.talk(1, 3), 0);
    }

    private static void partsAndWays() {
        TreeTalk x = seated(1, 5, 4);
        x.by(0, law(x, "s:1-k"));
        for (int i = 0; i < 20; i++) {
            int part = i / 4;
            int way = i % 4;
            x.ground(0, 1023);
            if (x.count(5) < 8) {
                x.minded(0, mind(x, "n:q=" + part + "&w=3?1;n:0;c:" + way));
                due("the way on the ground", x.said(0, 0, 3), 3);
                due("the part", x.said(0, 0, 2), part);
                due("for", x.said(0, 0, 4), way == 3 ? 0 : way);
            }
        }
        TreeTalk y = seated(1, 5, 4);
        y.by(0, law(y, "s:1-k"));
        y.minded(0, mind(y, "n:q=4&w=3?1;n:0;c:w-q+1"));
        y.ground(0, 1023);
        dueTalk("the last way of the last part", y, 0, 0, 2, 1020, 1);
        y.ground(0, 1020);
        dueTalk("another way", y, 0, 0, 1, 1020, 0);
    }

    /** What one says for instead of a way by that worth of c; it would have the last way of four. */
    private static int instead(String c, int way) {
        TreeTalk x = seated(1, 1, 4);
        x.ground(0, way);
        x.hold(0, 0, 0, 3, 2);
        x.by(0, law(x, "s:1-k"));
        x.minded(0, mind(x, "n:1;" + c));
        return x.said(0, 0, 4);
    }

    private static void worthOfC() {
        due("the first way", instead("c:0", 1), 0);
        due("the last way", instead("c:3", 1), 3);
        due("another one", instead("c:2", 1), 2);
        due("that on the ground", instead("c:1", 1), 3);
        due("that on the ground", instead("c:0", 0), 3);
        due("that on the ground", instead("c:3", 3), 0);
        due("one too many", instead("c:4", 1), 3);
        due("one too few", instead("c:0-1", 1), 3);
        due("the greatest", instead("c:9999*9999", 1), 3);
        due("the least", instead("c:0-9999*9999", 1), 3);
        due("none that holds", instead("c:w=0?2", 1), 3);
        due("no clause", instead("n:1", 1), 3);
        due("letters as for n: t w", instead("c:t+w", 1), 2);
        due("letters as for n: k f a q e o g", instead("c:k+f+a+q+e+o+g", 1), 0);
        due("letters as for n: h", instead("c:h+1", 1), 2);
        TreeTalk x = seated(1, 1, 2);
        x.by(0, law(x, "s:1-k"));
        x.minded(0, mind(x, "n:1;c:2"));
        due("no third way of two", x.said(0, 0, 4), 1);
        TreeTalk y = seated(3, 1, 4);
        y.by(0, law(y, "s:1-k"));
        for (int e = 0; e < 3; e++) {
            y.minded(e, e == 0 ? mind(y, "n:1;c:f+a+1") : 0);
        }
        due("f and a of the first", y.said(0, 0, 4), 1);
        due("f and a of the second", y.said(0, 1, 4), 3);
    }

    private static void greatestHold() {
        int[][] rows = {{1, 1, 1, 1, 0, 1}, {1, 1, 1, 1, 1, 0}, {0, 0, 0, 0, 0, 1}, {0, 0, 0, 0, 3, 0}, {2, 1, 1, 2, 0, 3}, {2, 0, 1, 0, 0, 2},
            {2, 2, 2, 2, 0, 1}, {2, 2, 2, 2, 2, 0}, {0, 0, 1, 1, 3, 2}, {2, 1, 1, 1, 0, 1}, {0, 1, 2, 2, 1, 2}, {1, 1, 1, 2, 3, 0}};
        for (int[] row : rows) {
            TreeTalk x = seated(1, 1, 4);
            for (int w = 0; w < 4; w++) {
                x.hold(0, 0, 0, w, row[w]);
            }
            x.ground(0, row[4]);
            x.by(0, law(x, "s:1-k"));
            x.minded(0, mind(x, "n:1"));
            due("holds " + row[0] + row[1] + row[2] + row[3] + " from " + row[4], x.said(0, 0, 4), row[5]);
        }
        TreeTalk x = seated(1, 1, 2);
        x.hold(0, 0, 0, 0, 0);
        x.hold(0, 0, 0, 1, 0);
        due("of two ways the other", x.said(0, 0, 4), 1);
    }

    private static void noNo() {
        TreeTalk x = seated(3, 1, 2);
        dueTalk("nobody says NO", x, 0, 0, 1, 0, 0);
        due("no word", orThrows(() -> x.said(0, 0, 0)), THROWS);
        x.hold(1, 0, 0, 0, 0);
        dueTalk("one says NO", x, 0, 0, 2, 1, 1);
        due("the one that did", x.said(0, 0, 0), 1);
        due("no second word", orThrows(() -> x.said(0, 1, 0)), THROWS);
        // who says no NO is not counted by f, nor by k
        x.by(0, law(x, "s:f<1&k<1?1;s:0"));
        dueTalk("f and k", x, 0, 0, 2, 1, 1);
    }

    private static void rests() {
        dueTalk("on the first day", quarrel("s:0"), 0, 0, 1, 0, 0);
        dueTalk("on the second day", quarrel("s:t<2?1;s:0"), 0, 0, 2, 0, 2);
        dueTalk("nobody sits", seated(0, 5, 4), 0, 0, 1, 0, 0);
        dueTalk("before it is over", quarrel("s:0;d:1"), 0, 0, 1, 0, 0);
        dueTalk("before it is over", quarrel("s:t<2?1;s:0;d:2"), 0, 0, 2, 0, 2);
        TreeTalk x = lasting("s:t<30?1;s:0");
        dueTalk("on the last day", x, 0, 0, 30);
        due("29 words", x.talk(0, 3), 29);
    }

    private static void failsBySilence() {
        dueTalk("l is 0", quarrel("s:0;l:0"), 0, 3, 1, 0, 0);
        dueTalk("l is 1", quarrel("s:0;l:1"), 0, 0, 1, 0, 0);
        dueTalk("l is -1", quarrel("s:0;l:0-1"), 0, 0, 1, 0, 0);
        dueTalk("l is the greatest", quarrel("s:0;l:9999*9999"), 0, 0, 1, 0, 0);
        dueTalk("l is not told", quarrel("s:0"), 0, 0, 1, 0, 0);
        dueTalk("l has no worth", quarrel("s:0;l:t=2?0"), 0, 0, 1, 0, 0);
        dueTalk("t on the first day", quarrel("s:0;l:t-1"), 0, 3, 1, 0, 0);
        dueTalk("t on the second day", quarrel("s:t<2?1;s:0;l:t-2"), 0, 3, 2, 0, 2);
        dueTalk("m", quarrel("s:0;l:m-2"), 0, 3, 1, 0, 0);
        dueTalk("a, k and f are 0", quarrel("s:t<2?1;s:0;l:a+k+f"), 0, 3, 2, 0, 2);
        dueTalk("on day d", quarrel("s:0;l:0;d:1"), 0, 3, 1, 0, 0);
        dueTalk("somebody spoke", quarrel("l:0;d:1"), 0, 1, 1, 0, 2);
        TreeTalk x = lasting("s:t<30?1;s:0;l:0");
        x.hold(0, 0, 0, 3, 0);
        x.hold(0, 0, 0, 2, 0);
        x.hold(0, 0, 0, 1, 0);
        x.hold(0, 0, 0, 0, 0);
        dueTalk("on day 30", x, 0, 3, 30);
        TreeTalk y = seated(2, 2, 2);
        y.by(0, law(y, "s:0;l:0"));
        dueTalk("all can BEAR it", y, 0, 0, 1, 0, 0);
        y.clash(1, 0, 0, 0, 1, 0);
        dueTalk("a CLASH", y, 0, 3, 1, 0, 0);
        y.left(1, true);
        dueTalk("of one that LEFT", y, 0, 0, 1, 0, 0);
        y.left(1, false);
        y.ground(0, 1);
        dueTalk("none on that ground", y, 0, 0, 1, 1, 0);
        y.hold(1, 0, 1, 1, 0);
        dueTalk("a WAY of the last part", y, 0, 3, 1, 1, 0);
    }

    /** Each day one of eight says no to a part that it has not spoken of, so that nothing goes round. */
    private static TreeTalk lasting(String law) {
        TreeTalk x = seated(8, 4, 4);
        int m = mind(x, "n:a=[t-1]/4&q=[t-1]-[t-1]/4*4?1;n:0;c:w+1");
        for (int e = 0; e < 8; e++) {
            x.minded(e, m);
        }
        x.by(0, law(x, law));
        return x;
    }

    private static void dayD() {
        int[][] rows = {{0, 1}, {1, 1}, {2, 2}, {3, 3}, {29, 29}, {30, 30}, {31, 30}, {32, 30}, {9999, 30}};
        for (int[] row : rows) {
            TreeTalk x = lasting("s:1;d:" + row[0]);
            dueTalk("d:" + row[0], x, 0, 1, row[1]);
            due("d:" + row[0], x.talk(0, 3), row[1]);
        }
        dueTalk("d is -1", lasting("s:1;d:0-1"), 0, 1, 1);
        dueTalk("d is the least", lasting("s:1;d:0-9999*9999"), 0, 1, 1);
        dueTalk("d is the greatest", lasting("s:1;d:9999*9999"), 0, 1, 30);
        dueTalk("without d", lasting("s:1"), 0, 1, 30);
        dueTalk("d has no worth", lasting("s:1;d:m<8?2"), 0, 1, 30);
        dueTalk("d by m", lasting("s:1;d:m"), 0, 1, 8);
        dueTalk("other letters are 0", lasting("s:1;d:a+k+t+f+2"), 0, 1, 2);
        dueTalk("before it goes round", quarrel("d:2"), 0, 1, 2, 0, 4);
        TreeTalk x = lasting("s:1");
        due("the last word", x.said(0, 29, 1), 30);
        due("no word more", orThrows(() -> x.said(0, 30, 1)), THROWS);
    }

    private static void round() {
        dueTalk("at the earliest on the second day", quarrel(null), 0, 2, 2, 0, 4);
        dueTalk("before day 3 is", quarrel("d:3"), 0, 2, 2, 0, 4);
        // the ground of the beginning is that of no day
        TreeTalk x = quarrel("d:1");
        due("the ground of the beginning", x.talk(0, 2), 0);
        due("is not gone round to", x.talk(0, 0), 1);
        // what has been said counts too: the ground comes back on day 4, the words on day 8
        TreeTalk y = seated(1, 1, 4);
        y.by(0, law(y, "s:1"));
        y.minded(0, mind(y, "n:1;c:[w+1]*[3-w]/[3-w]"));
        dueTalk("the same ground, but new words", y, 0, 2, 8, 0, 8);
        // who said it counts: two by turns say the same
        TreeTalk z = seated(2, 1, 2);
        z.by(0, law(z, "s:1"));
        int m = mind(z, "n:t=1&a=0|t=2&a=0|t=3&a=1|t=4&a=1|t>4&a=0?1;n:0");
        z.minded(0, m);
        z.minded(1, m);
        dueTalk("the same words of another one", z, 0, 2, 6, 0, 6);
        // the ground counts too: nothing new is said, but it is another one than the day before
        TreeTalk v = seated(1, 1, 2);
        v.by(0, law(v, "s:1"));
        v.minded(0, mind(v, "n:1"));
        dueTalk("ways by turns", v, 0, 2, 4, 0, 4);
    }

    private static void words() {
        TreeTalk x = lasting("s:1");
        for (int i = 0; i < 30; i++) {
            due("who spoke", x.said(0, i, 0), i / 4);
            due("the DAY", x.said(0, i, 1), i + 1);
            due("the PART", x.said(0, i, 2), i % 4);
            due("NO to", x.said(0, i, 3), i / 4 % 4);
            due("FOR", x.said(0, i, 4), i / 4 % 4 == 3 ? 0 : i / 4 % 4 + 1);
        }
        for (int far : new int[] {-1, 30, 240, LEAST, MOST}) {
            due("word " + far, orThrows(() -> x.said(0, far, 0)), THROWS);
        }
        for (int far : new int[] {-1, 5, LEAST, MOST}) {
            due("what " + far, orThrows(() -> x.said(0, 0, far)), THROWS);
            due("what " + far, orThrows(() -> x.said(0, 29, far)), THROWS);
        }
        // as many as can be: eight each day
        TreeTalk y = seated(8, 5, 4);
        int m = mind(y, "n:a=[t-1]/4&q=[t-1]-[t-1]/4*4?1;n:a=[t-1]/4?0;n:q=4?1;n:0;c:w+1");
        for (int e = 0; e < 8; e++) {
            y.minded(e, m);
        }
        y.by(0, law(y, "s:1"));
        dueTalk("as many words as can be", y, 0, 1, 30);
        due("as many words as can be", y.talk(0, 3), 240);
        due("the last one", y.said(0, 239, 0), 7);
        due("the last one", y.said(0, 239, 1), 30);
        due("one more", orThrows(() -> y.said(0, 240, 0)), THROWS);
    }

    private static void twentyPromises() {
        TreeTalk x = seated(8, 5, 4);
        x.matter(1, 2);
        for (int i = 0; i < 20; i++) {
            yes("promise " + i, x.promise(i % 8, 7 - i % 8, 0, i % 5, i % 4));
            due("how many", x.count(6), i + 1);
        }
        no("one more", x.promise(0, 1, 1, 0, 0));
        due("how many", x.count(6), 20);
        for (int e = 0; e < 8; e++) {
            due("promises of " + e, x.promised(e, true) + x.promised(e, false), e < 4 ? 3 : 2);
        }
        TreeTalk y = seated(2, 1, 2);
        for (int i = 0; i < 20; i++) {
            yes("the same again", y.promise(0, 1, 0, 0, 0));
        }
        no("one more", y.promise(1, 0, 0, 0, 0));
        due("all kept", y.promised(0, true), 20);
        due("none broken", y.promised(0, false), 0);
        due("none of the other", y.promised(1, true), 0);
        TreeTalk z = seated(2, 1, 2);
        no("to itself", z.promise(0, 0, 0, 0, 0));
        no("to itself", z.promise(1, 1, 0, 0, 0));
        due("refused", z.count(6), 0);
    }

    private static void keptOrBroken() {
        String[] laws = {"s:0", "d:1", "d:9", "s:0;l:0"};
        for (int ending = 0; ending < 4; ending++) {
            TreeTalk x = quarrel(laws[ending]);
            x.promise(0, 1, 0, 0, 0);
            x.promise(0, 1, 0, 0, 1);
            due("ends by " + laws[ending], x.talk(0, 0), ending);
            due("with the ground", x.talk(0, 2), 0);
            due("kept where it ends so", x.promised(0, true), ending == 0 ? 1 : 0);
            due("broken where it ends so", x.promised(0, false), ending == 0 ? 1 : 2);
        }
        TreeTalk y = seated(2, 5, 4);
        y.promise(0, 1, 0, 0, 3);
        y.promise(0, 1, 0, 4, 3);
        y.ground(0, 1020);
        due("the first part", y.promised(0, true), 1);
        y.ground(0, 3);
        due("the last part", y.promised(0, true), 1);
        y.ground(0, 1023);
        due("both", y.promised(0, true), 2);
        due("none broken", y.promised(0, false), 0);
        y.ground(0, 0);
        due("none", y.promised(0, true), 0);
        due("both broken", y.promised(0, false), 2);
    }

    private static void gains() {
        TreeTalk x = seated(2, 1, 2);
        x.matter(1, 2);
        for (int i = 0; i < 20; i++) {
            x.promise(0, 1, 0, 0, 0);
        }
        x.minded(1, mind(x, "n:g=20?1;n:0"));
        yes("20 kept", x.talk(1, 3) > 0);
        due("not in that matter itself", x.talk(0, 3), 0);
        x.minded(1, mind(x, "n:g=0-20?1;n:0"));
        due("20 kept", x.talk(1, 3), 0);
        x.ground(0, 1);
        yes("20 broken", x.talk(1, 3) > 0);
        x.minded(0, 1);
        x.minded(1, NONE);
        due("not of the one that promised", x.talk(1, 3), 0);
        // the last of four matters, and promises in each of them
        TreeTalk y = seated(2, 2, 2);
        for (int m = 1; m < 4; m++) {
            y.matter(2, 2);
        }
        for (int m = 0; m < 4; m++) {
            y.promise(0, 1, m, 1, 0);
        }
        for (int m = 0; m < 4; m++) {
            y.minded(1, mind(y, "n:q=0&g=" + m + "?1;n:0"));
            for (int other = 0; other < 4; other++) {
                int words = y.talk(other, 3);
                due("g is " + m + " in matter " + other, words > 0 ? 1 : 0, m == other ? 1 : 0);
            }
        }
        // a promise that is broken by another one's keeping: from matter to matter
        TreeTalk z = seated(2, 1, 2);
        z.matter(1, 2);
        z.matter(1, 2);
        z.promise(0, 1, 0, 0, 0);
        z.promise(0, 1, 1, 0, 0);
        z.minded(1, mind(z, "n:g>0&w=0?1;n:0"));
        due("kept in the first", z.talk(1, 2), 1);
        due("one kept, one broken", z.talk(2, 2), 0);
        z.ground(0, 1);
        due("broken in the first", z.talk(1, 2), 0);
        due("one broken, one kept", z.talk(2, 2), 0);
    }
}
