/** The bounds of elders, matters, summings, gifts, asides and of what is taken: a test for each sentence that names one. */
public final class BoundaryTest extends Bench {
    private BoundaryTest() {
    }

    public static void main(String[] args) {
        sentence("Nobody sits.", BoundaryTest::newObject);
        sentence("ELDERS (8 at most)", BoundaryTest::eightElders);
        sentence("an AGE (20 .. 99)", BoundaryTest::ages);
        sentence("they sit in the order of AGE, the youngest first, of one AGE the lower number.", BoundaryTest::seats);
        sentence("An ELDER may have LEFT (it counts for nothing then, but in what was said), or be back.", BoundaryTest::leftAndBack);
        sentence("HEED of one for another (0 .. 9; 0 at first).", BoundaryTest::heed);
        sentence("MATTERS (4 at most)", BoundaryTest::fourMatters);
        sentence("1 .. 5 PARTS of 2 .. 4 WAYS each (as many in each).", BoundaryTest::partsAndWays);
        sentence("HOLD of an ELDER of a WAY of a PART: 0 cannot bear, 1 can (at first), 2 would have it.", BoundaryTest::holds);
        sentence("CARE of an ELDER for a PART (0 .. 9; 1 at first).", BoundaryTest::cares);
        sentence("CLASHES (40 at most)", BoundaryTest::fortyClashes);
        sentence("an ELDER cannot bear a WAY of a PART and a WAY of another PART of that MATTER together.", BoundaryTest::clashParts);
        sentence("as a number, the digits to the base 4 (PART 0 the highest).", BoundaryTest::proposals);
        sentence("An ELDER can BEAR it, if it can bear each WAY and there is no CLASH of its in it.", BoundaryTest::bearing);
        sentence("the sum of CARE over PARTS whose WAY it would not have (HOLD 0 or 1) though there is one it would.", BoundaryTest::losses);
        sentence("ALL: how many (i NONE), the i-th.", BoundaryTest::all);
        sentence("FAIR: of these the one by which the greatest LOSS is least, then the next greatest, and so on; of several the lowest number.",
            BoundaryTest::fair);
        sentence("BARRED by ELDERS: if there is none: the fewest who sit without whom there would be one"
            + " (of several sets that with the lower ELDER where two first differ).", BoundaryTest::barred);
        sentence("LEFT OPEN: the fewest PARTS such that the others can have WAYS that all who sit can bear, no CLASH among these"
            + " (of several sets likewise by PARTS).", BoundaryTest::leftOpen);
        sentence("GIFTS (8 at most)", BoundaryTest::eightGifts);
        sentence("TRADE of two MATTERS: the fewest GIFTS (from the second to the first, of ELDERS who sit)", BoundaryTest::trades);
        sentence("(of several sets that with the lower GIFT first); none: there is none.", BoundaryTest::tradeSets);
        sentence("HANDS: the PROPOSAL that most who sit can BEAR; of several that with the least sum of LOSSES of all who sit,"
            + " then the lowest number. BOUND: who sits and cannot BEAR it.", BoundaryTest::hands);
        sentence("ASIDES (60 at most): an ELDER tells some (bits of ELDERS, one at least)", BoundaryTest::sixtyAsides);
        sentence("An ASIDE to some (bits, not 0; itself may be among them).", BoundaryTest::hearers);
        sentence("HOLD that it takes it to have: 1 at first; by an ASIDE that it heard 1 or 0;", BoundaryTest::takenByAsides);
        sentence("by the TALK of that MATTER (which all heard, LEFT or not, behind all ASIDES): 2, if it said FOR the WAY, 0, if it said NO to it"
            + " (the later word).", BoundaryTest::takenByTalks);
        sentence("what one takes another one to take a third one to hold: by ASIDES that both heard, and the TALK.", BoundaryTest::takenTwice);
        sentence("MISTAKEN: how many WAYS of a MATTER one takes another one to hold otherwise than it does.", BoundaryTest::mistaken);
        sentence("ELSE: how many NOS of an ELDER in a TALK were to a WAY that it could bear, without a CLASH of its of that WAY with what was"
            + " on the ground.", BoundaryTest::nosWithoutNeed);
        sentence("the one for which, were its HOLD 0 in the TALK, the TALK would REST with a LOSS (by what it holds truly) that is less than it is"
            + " now by most (now it must REST; of several the lower PART, then WAY).", BoundaryTest::holdingBack);
        sentence("LEANS: in how many PARTS a PROPOSAL has not the WAY that most ELDERS said FOR in the TALK (of several ones each does; a PART that"
            + " nobody spoke of counts not).", BoundaryTest::leans);
        sentence("those by which, at each of its looks in that TALK at a PART, it would have said NO or not, as it did.", BoundaryTest::minds);
        sentence("0 ELDERS, 1 who sit, 2 MATTERS, 3 CLASHES, 4 LAWS, 5 MINDS, 6 PROMISES, 7 GIFTS, 8 ASIDES, 9 bytes of the TAPE. NONE for others.",
            BoundaryTest::counts);
        sentence("An object is used for at most 512 calls after it has been made", BoundaryTest::manyCalls);
        endTest("all other bounds hold");
    }

    // elders

    private static void newObject() {
        TreeTalk x = new TreeTalk();
        for (int at : new int[] {-1, 0, 1, 7, 8, LEAST, MOST}) {
            due("place " + at, x.place(at), NONE);
        }
        for (int what = 0; what < 10; what++) {
            due("count " + what, x.count(what), 0);
        }
        due("the first elder", x.elder(50), 0);
        due("sits", x.place(0), 0);
        due("others are not touched", new TreeTalk().count(0), 0);
    }

    private static void eightElders() {
        TreeTalk x = new TreeTalk();
        for (int e = 0; e < 8; e++) {
            due("elder " + e, x.elder(30 + e), e);
            due("place " + e, x.place(e), e);
            due("place " + (e + 1), x.place(e + 1), NONE);
        }
        due("a ninth", x.elder(30), NONE);
        due("a ninth, youngest", x.elder(20), NONE);
        due("elders", x.count(0), 8);
        due("who sit", x.count(1), 8);
        due("place 0", x.place(0), 0);
        for (int e = 0; e < 8; e++) {
            yes("leaves", x.left(e, true));
        }
        due("a ninth, though all have left", x.elder(30), NONE);
        due("elders", x.count(0), 8);
        no("no such one", x.left(8, true));
        yes("the eighth comes back", x.left(7, false));
        due("sits alone", x.place(0), 7);
    }

    private static void ages() {
        for (int age : new int[] {19, 100, 0, -1, -20, LEAST, MOST, 20 - 256, 99 + 256}) {
            TreeTalk x = new TreeTalk();
            due("age " + age, x.elder(age), NONE);
            due("nobody came", x.count(0), 0);
        }
        for (int age = 20; age <= 99; age++) {
            due("age " + age, new TreeTalk().elder(age), 0);
        }
        TreeTalk x = tree(99, 20, 98, 21);
        int[] order = {1, 3, 2, 0};
        for (int i = 0; i < 4; i++) {
            due("place " + i, x.place(i), order[i]);
        }
    }

    private static void seats() {
        TreeTalk alike = tree(50, 50, 50, 50, 50, 50, 50, 50);
        TreeTalk falling = tree(99, 90, 80, 70, 60, 50, 40, 20);
        for (int i = 0; i < 8; i++) {
            due("of one age", alike.place(i), i);
            due("of falling ages", falling.place(i), 7 - i);
        }
        TreeTalk x = tree(50, 49, 50, 51, 49);
        int[] order = {1, 4, 0, 2, 3};
        for (int i = 0; i < 5; i++) {
            due("place " + i, x.place(i), order[i]);
        }
        for (int at : new int[] {-1, 5, 8, LEAST, MOST}) {
            due("place " + at, x.place(at), NONE);
        }
        x.left(4, true);
        x.left(3, true);
        due("place 1", x.place(1), 0);
        due("place 2", x.place(2), 2);
        due("place 3", x.place(3), NONE);
        x.left(4, false);
        due("back on its place", x.place(1), 4);
    }

    private static void leftAndBack() {
        TreeTalk x = seated(3, 2, 2);
        for (int e = 0; e < 3; e++) {
            x.hold(e, 0, 0, 0, 0);
            x.hold(e, 0, 0, 1, 0);
            x.hold(e, 0, 1, 1, 2);
        }
        x.aside(0, 6, 0, 1, 0, false);
        due("all sit", x.all(0, NONE), 0);
        for (int e = 0; e < 3; e++) {
            no("is here", x.left(e, false));
            yes("leaves", x.left(e, true));
            no("has left", x.left(e, true));
            due("who sit", x.count(1), 2 - e);
        }
        due("place 0", x.place(0), NONE);
        due("ALL", x.all(0, NONE), 4);
        due("FAIR", x.fair(0), 0);
        due("BARRED", x.barred(0), NONE);
        due("LEFT OPEN", x.open(0), 0);
        due("HANDS", x.hands(0, 0), 0);
        due("BOUND", x.hands(0, 1), 0);
        due("hands", x.hands(0, 2), 0);
        dueTalk("TALK", x, 0, 0, 1, 0, 0);
        due("held still", x.held(2, 0, 0, 1), 0);
        due("bears still", x.bear(2, 0, 0), 0);
        due("loses still", x.loss(2, 0, 0), 1);
        due("what was said", x.taken(1, 0, 0, 1, 0), 0);
        due("elders", x.count(0), 3);
        yes("the last one is back", x.left(2, false));
        no("is here", x.left(2, false));
        due("place 0", x.place(0), 2);
        due("ALL", x.all(0, NONE), 0);
        due("BARRED", x.barred(0), 4);
        due("BOUND", x.hands(0, 1), 4);
        for (int elder : new int[] {-1, 3, 8, 32, LEAST, MOST}) {
            no("no such one", x.left(elder, true));
            no("no such one", x.left(elder, false));
        }
    }

    private static void heed() {
        due("0 at first", wordsHeeding(seated(2, 1, 2), 0), 3);
        int[] befores = {0, 5, 9};
        for (int before : befores) {
            for (int v : new int[] {0, 1, 8, 9}) {
                TreeTalk x = seated(2, 1, 2);
                yes("heed " + before, x.heed(1, 0, before));
                yes("heed " + v, x.heed(1, 0, v));
                due("heed " + v + " behind " + before, wordsHeeding(x, v), 3);
            }
            for (int v : new int[] {10, -1, LEAST, MOST, 256}) {
                TreeTalk x = seated(2, 1, 2);
                x.heed(1, 0, before);
                no("heed " + v, x.heed(1, 0, v));
                due("refused " + v + " behind " + before, wordsHeeding(x, before), 3);
            }
        }
        TreeTalk x = seated(2, 1, 2);
        x.heed(1, 0, 9);
        no("alike", x.heed(0, 0, 1));
        no("alike", x.heed(1, 1, 1));
        for (int elder : new int[] {-1, 2, 8, LEAST, MOST}) {
            no("no such one", x.heed(elder, 0, 1));
            no("no such other", x.heed(1, elder, 1));
        }
        yes("of one for another, not back", x.heed(0, 1, 3));
        due("as before", wordsHeeding(x, 9), 3);
    }

    /** There are 3 words where the second one heeds the first one by so much, else there is one. */
    private static int wordsHeeding(TreeTalk x, int heed) {
        x.hold(0, 0, 0, 0, 0);
        x.minded(1, mind(x, "n:e=" + heed + "&w=1&k=0?1;n:0"));
        return x.talk(0, 3);
    }

    // matters

    private static void fourMatters() {
        TreeTalk x = tree(30);
        for (int m = 0; m < 4; m++) {
            due("no matter yet", x.talk(m, 0), NONE);
            due("matter " + m, x.matter(1 + m, 2), m);
            due("the matter", x.talk(m, 0), 0);
        }
        due("a fifth", x.matter(1, 2), NONE);
        due("matters", x.count(2), 4);
        due("no fifth", x.talk(4, 0), NONE);
        due("the last one", x.all(3, NONE), 16);
    }

    private static void partsAndWays() {
        for (int parts = 1; parts <= 5; parts++) {
            int all = 1;
            for (int ways = 2; ways <= 4; ways++) {
                TreeTalk x = tree(30);
                due(parts + " parts of " + ways + " ways", x.matter(parts, ways), 0);
                all = 1;
                for (int p = 0; p < parts; p++) {
                    all *= ways;
                }
                due("proposals", x.all(0, NONE), all);
                due("the last way of the last part", x.held(0, 0, parts - 1, ways - 1), 1);
                due("one part more", x.held(0, 0, parts, 0), NONE);
                due("one way more", x.held(0, 0, 0, ways), NONE);
            }
        }
        int[] far = {0, -1, 6, 256 + 1, LEAST, MOST};
        for (int parts : far) {
            due(parts + " parts", new TreeTalk().matter(parts, 2), NONE);
        }
        far = new int[] {0, 1, -1, 5, 256 + 2, LEAST, MOST};
        for (int ways : far) {
            TreeTalk x = new TreeTalk();
            due(ways + " ways", x.matter(1, ways), NONE);
            due("refused", x.count(2), 0);
        }
    }

    private static void holds() {
        TreeTalk x = seated(2, 5, 4);
        int before = 1;
        for (int v : new int[] {0, 1, 2, 3, -1, 0, 2, 1, LEAST, MOST, 2, 0, 256, 1}) {
            due("before it", x.held(1, 0, 4, 3), before);
            boolean can = v >= 0 && v <= 2;
            due("hold " + v, x.hold(1, 0, 4, 3, v) ? 1 : 0, can ? 1 : 0);
            before = can ? v : before;
            due("behind it", x.held(1, 0, 4, 3), before);
            due("can bear it", x.bear(1, 0, 3), before == 0 ? 0 : 1);
            due("would have another", x.loss(1, 0, 0), before == 2 ? 1 : 0);
        }
        due("of another elder", x.held(0, 0, 4, 3), 1);
        due("of another part", x.held(1, 0, 3, 3), 1);
        due("of another way", x.held(1, 0, 4, 2), 1);
    }

    private static void cares() {
        TreeTalk x = seated(2, 5, 2);
        x.hold(1, 0, 4, 1, 2);
        x.hold(1, 0, 0, 0, 2);
        int before = 1;
        for (int v : new int[] {0, 9, 10, -1, 1, LEAST, MOST, 256, 9}) {
            due("before it", x.loss(1, 0, 0), before);
            boolean can = v >= 0 && v <= 9;
            due("care " + v, x.care(1, 0, 4, v) ? 1 : 0, can ? 1 : 0);
            before = can ? v : before;
            due("behind it", x.loss(1, 0, 0), before);
        }
        due("of another part", x.loss(1, 0, 257), 1);
        x.hold(0, 0, 4, 1, 2);
        due("of another elder", x.loss(0, 0, 0), 1);
    }

    private static void fortyClashes() {
        TreeTalk x = seated(2, 2, 2);
        x.matter(5, 4);
        for (int i = 0; i < 39; i++) {
            yes("clash " + i, x.clash(0, i % 2, 0, 0, 1, 0));
            due("how many", x.count(3), i + 1);
        }
        due("can bear it", x.bear(1, 1, 1023), 1);
        yes("the last one", x.clash(1, 1, 0, 3, 4, 3));
        due("cannot bear it", x.bear(1, 1, 1023), 0);
        no("one more", x.clash(1, 1, 0, 2, 4, 2));
        no("one more in the other", x.clash(1, 0, 0, 0, 1, 1));
        due("how many", x.count(3), 40);
        due("can bear that", x.bear(1, 1, 682), 1);
        due("can bear that", x.bear(1, 0, 1), 1);
        TreeTalk y = seated(1, 5, 4);
        for (int i = 0; i < 40; i++) {
            yes("each another one", y.clash(0, 0, i / 16, i % 4, i / 16 + 1, i / 4 % 4));
        }
        no("one more", y.clash(0, 0, 3, 0, 4, 0));
        due("the first", y.bear(0, 0, 0), 0);
        due("the last", y.bear(0, 0, 0 * 256 + 0 * 64 + 3 * 16 + 1 * 4), 0);
        due("none of them", y.all(0, NONE), 0);
        due("two parts are open", Integer.bitCount(y.open(0)), 1);
    }

    private static void clashParts() {
        TreeTalk x = seated(2, 5, 4);
        for (int part = 0; part < 5; part++) {
            no("one part", x.clash(0, 0, part, 0, part, 1));
            no("one way", x.clash(0, 0, part, 0, part, 0));
        }
        due("refused", x.count(3), 0);
        yes("the first and the last", x.clash(0, 0, 0, 0, 4, 3));
        yes("the last and the first", x.clash(1, 0, 4, 3, 0, 0));
        for (int e = 0; e < 2; e++) {
            due("both", x.bear(e, 0, 3), 0);
            due("the one", x.bear(e, 0, 0), 1);
            due("the other", x.bear(e, 0, 256 + 3), 1);
        }
        TreeTalk y = seated(1, 1, 2);
        y.matter(2, 2);
        no("of a matter with one part", y.clash(0, 0, 0, 0, 1, 0));
        yes("of another matter", y.clash(0, 1, 0, 0, 1, 0));
        due("there", y.bear(0, 1, 0), 0);
        due("not here", y.bear(0, 0, 0), 1);
    }

    private static void dueProposal(TreeTalk x, int matter, int proposal, boolean is) {
        due("bear " + proposal, x.bear(0, matter, proposal), is ? 1 : NONE);
        due("loss " + proposal, x.loss(0, matter, proposal), is ? 0 : NONE);
        due("ground " + proposal, x.ground(matter, proposal) ? 1 : 0, is ? 1 : 0);
        due("leans " + proposal, x.leans(matter, proposal), is ? 0 : NONE);
    }

    private static void proposals() {
        TreeTalk x = seated(1, 5, 4);
        x.matter(1, 2);
        x.matter(2, 3);
        x.matter(5, 2);
        for (int far : new int[] {-1, 1024, 2048, LEAST, MOST}) {
            for (int m = 0; m < 4; m++) {
                dueProposal(x, m, far, false);
            }
        }
        dueProposal(x, 0, 0, true);
        dueProposal(x, 0, 1023, true);
        for (int p = 0; p < 18; p++) {
            dueProposal(x, 1, p, p < 2);
            dueProposal(x, 2, p, p / 4 < 3 && p % 4 < 3);
        }
        for (int p : new int[] {341, 340, 85, 0}) {
            dueProposal(x, 3, p, true);
        }
        for (int p : new int[] {342, 345, 357, 405, 597, 2, 512, 1023}) {
            dueProposal(x, 3, p, false);
        }
        TreeTalk y = seated(1, 5, 4);
        for (int part = 0; part < 5; part++) {
            y.hold(0, 0, part, 3, 0);
            int digit = 1 << 8 - 2 * part;
            due("part " + part, y.bear(0, 0, 3 * digit), 0);
            due("part " + part, y.bear(0, 0, 2 * digit), 1);
            y.hold(0, 0, part, 3, 1);
        }
    }

    private static void bearing() {
        TreeTalk x = seated(2, 5, 4);
        for (int part = 0; part < 5; part++) {
            for (int way = 0; way < 4; way++) {
                int proposal = way << 8 - 2 * part;
                x.hold(1, 0, part, way, 0);
                due("one way it cannot", x.bear(1, 0, proposal), 0);
                due("another elder", x.bear(0, 0, proposal), 1);
                x.hold(1, 0, part, way, 2);
                due("one way it would have", x.bear(1, 0, proposal), 1);
            }
        }
        x.clash(1, 0, 3, 2, 1, 3);
        due("both ways of a clash", x.bear(1, 0, 3 * 64 + 2 * 4), 0);
        due("of another elder", x.bear(0, 0, 3 * 64 + 2 * 4), 1);
        due("the one way", x.bear(1, 0, 3 * 64), 1);
        due("the other way", x.bear(1, 0, 2 * 4), 1);
        due("the ways the other way round", x.bear(1, 0, 2 * 64 + 3 * 4), 1);
    }

    private static void losses() {
        TreeTalk x = seated(1, 5, 4);
        due("no way it would have", x.loss(0, 0, 0), 0);
        for (int part = 0; part < 5; part++) {
            x.care(0, 0, part, 9);
            x.hold(0, 0, part, 3, 2);
            due("parts up to " + part, x.loss(0, 0, 0), 9 * (part + 1));
        }
        due("the greatest", x.loss(0, 0, 0), 45);
        due("none", x.loss(0, 0, 1023), 0);
        due("all but the last part", x.loss(0, 0, 3), 36);
        due("all but the first part", x.loss(0, 0, 768), 36);
        x.hold(0, 0, 0, 0, 0);
        due("a way it cannot bear", x.loss(0, 0, 0), 45);
        x.hold(0, 0, 0, 0, 2);
        due("one of two it would have", x.loss(0, 0, 0), 36);
        due("the other one", x.loss(0, 0, 768), 36);
        for (int way = 0; way < 4; way++) {
            x.hold(0, 0, 0, way, 2);
        }
        due("all ways it would have", x.loss(0, 0, 256), 36);
        for (int way = 0; way < 4; way++) {
            x.hold(0, 0, 0, way, 0);
        }
        due("no way it would have", x.loss(0, 0, 256), 36);
    }

    // summings

    private static void all() {
        TreeTalk x = seated(2, 5, 4);
        due("as many as can be", x.all(0, NONE), 1024);
        due("the first", x.all(0, 0), 0);
        due("the last", x.all(0, 1023), 1023);
        for (int i : new int[] {1024, -2, LEAST, MOST}) {
            due("number " + i, x.all(0, i), NONE);
        }
        for (int part = 0; part < 5; part++) {
            for (int way = 0; way < 3; way++) {
                x.hold(part % 2, 0, part, way, 0);
            }
        }
        due("one alone", x.all(0, NONE), 1);
        due("it", x.all(0, 0), 1023);
        due("no second", x.all(0, 1), NONE);
        x.hold(1, 0, 4, 3, 0);
        due("none", x.all(0, NONE), 0);
        due("no first", x.all(0, 0), NONE);
        x.left(1, true);
        due("of the one that sits", x.all(0, NONE), 16);
        due("the last of them", x.all(0, 15), 255 + 768);
        due("no more", x.all(0, 16), NONE);
        x.left(0, true);
        due("nobody sits", x.all(0, NONE), 1024);
        for (int m : new int[] {-1, 1, 4, LEAST, MOST}) {
            due("matter " + m, x.all(m, NONE), NONE);
            due("matter " + m, x.all(m, 0), NONE);
        }
    }

    /** Of five parts all by way 0 or all by way 1, since the last elder clashes on all else. */
    private static TreeTalk eitherWay() {
        TreeTalk x = seated(8, 5, 2);
        for (int p = 0; p < 4; p++) {
            x.clash(7, 0, p, 0, p + 1, 1);
            x.clash(7, 0, p, 1, p + 1, 0);
        }
        return x;
    }

    private static void would(TreeTalk x, int elder, int way, int care) {
        for (int p = 0; p < 5; p++) {
            x.hold(elder, 0, p, way, 2);
            x.care(elder, 0, p, Math.min(9, Math.max(0, care - 9 * p)));
        }
    }

    private static void fair() {
        TreeTalk x = eitherWay();
        due("two", x.all(0, NONE), 2);
        due("of several the lowest number", x.fair(0), 0);
        would(x, 0, 1, 45);
        due("loss by way 0", x.loss(0, 0, 0), 45);
        due("the greatest loss", x.fair(0), 341);
        for (int e = 1; e < 7; e++) {
            would(x, e, 0, 44);
        }
        due("44 of six are less than 45 of one", x.fair(0), 341);
        would(x, 1, 0, 45);
        due("the greatest alike, the next one less", x.fair(0), 0);
        for (int e = 1; e < 7; e++) {
            would(x, e, 0, 0);
        }
        would(x, 6, 0, 45);
        due("all alike: the lowest number", x.fair(0), 0);
        would(x, 7, 1, 1);
        due("the next one, of another elder", x.fair(0), 341);
        would(x, 2, 0, 1);
        due("alike again", x.fair(0), 0);
        x.left(2, true);
        due("who sits", x.fair(0), 341);
        x.hold(7, 0, 4, 1, 0);
        due("the only one", x.fair(0), 0);
        x.hold(7, 0, 4, 0, 0);
        due("none", x.fair(0), NONE);
    }

    private static void barred() {
        TreeTalk x = seated(8, 1, 4);
        due("ALL has some", x.barred(0), NONE);
        for (int e = 0; e < 8; e++) {
            for (int w = 0; w < 4; w++) {
                x.hold(e, 0, 0, w, 0);
            }
        }
        due("all eight", x.barred(0), 255);
        x.left(7, true);
        due("seven", x.barred(0), 127);
        x.left(0, true);
        due("six", x.barred(0), 126);
        // way 0 by 0 5 6, way 1 by 1 2 3, way 2 by 0 2 7, way 3 by all
        int[][] cannot = {{0, 5, 6}, {1, 2, 3}, {0, 2, 7}, {0, 1, 2, 3, 4, 5, 6, 7}};
        TreeTalk y = seated(8, 1, 4);
        for (int w = 0; w < 4; w++) {
            for (int e : cannot[w]) {
                y.hold(e, 0, 0, w, 0);
            }
        }
        due("of several the lower where two first differ", y.barred(0), 1 | 4 | 128);
        y.left(7, true);
        due("the fewest", y.barred(0), 1 | 4);
        y.left(0, true);
        due("one alone", y.barred(0), 4);
        y.left(2, true);
        due("ALL has some", y.barred(0), NONE);
        y.left(2, false);
        y.left(0, false);
        y.left(7, false);
        y.left(2, true);
        due("of two of two the lower", y.barred(0), 1 | 128);
        y.hold(5, 0, 0, 0, 1);
        due("of two of two the lower", y.barred(0), 1 | 64);
        due("no such matter", y.barred(1), NONE);
        due("no such matter", y.barred(-1), NONE);
    }

    private static void leftOpen() {
        TreeTalk x = seated(2, 5, 2);
        due("no part", x.open(0), 0);
        for (int part = 4; part >= 0; part--) {
            x.hold(0, 0, part, 0, 0);
            due("one way of it is left", Integer.bitCount(x.open(0)), 4 - part);
            x.hold(1, 0, part, 1, 0);
            due("parts from " + part, x.open(0), 31 & -(1 << part));
        }
        x.left(0, true);
        due("who sits", x.open(0), 0);
        // of two sets as few: a clash of 0 and 1, or of 1 and 2, is gone without 1; of 3 and 4 the lower
        TreeTalk y = seated(1, 5, 2);
        clashAll(y, 0, 1);
        due("0, not 1", y.open(0), 1);
        clashAll(y, 2, 1);
        due("1 alone", y.open(0), 2);
        clashAll(y, 4, 3);
        due("1 and 3", y.open(0), 2 | 8);
        clashAll(y, 4, 2);
        due("1 and 4", y.open(0), 2 | 16);
        clashAll(y, 3, 0);
        due("0 1 4, not 0 2 3 nor 1 3 4", y.open(0), 1 | 2 | 16);
        for (int m : new int[] {-1, 1, LEAST, MOST}) {
            due("matter " + m, y.open(m), NONE);
        }
    }

    private static void clashAll(TreeTalk x, int part, int other) {
        for (int i = 0; i < 4; i++) {
            x.clash(0, 0, part, i / 2, other, i % 2);
        }
    }

    // gifts

    private static void eightGifts() {
        TreeTalk x = seated(2, 2, 2);
        x.matter(1, 3);
        for (int i = 0; i < 8; i++) {
            due("gift " + i, x.gift(1, 0, 1, 1, 1, 0, 2), i);
            due("how many", x.count(7), i + 1);
        }
        due("a ninth", x.gift(0, 0, 0, 0, 1, 0, 0), NONE);
        due("how many", x.count(7), 8);
        due("one matter", seated(1, 2, 2).gift(0, 0, 0, 0, 0, 1, 0), NONE);
    }

    /** Eight elders who can bear no way of the first matter, each with a gift of its own from the second. */
    private static TreeTalk eightNeedy() {
        TreeTalk x = seated(8, 1, 2);
        x.matter(1, 2);
        for (int e = 0; e < 8; e++) {
            x.hold(e, 0, 0, 0, 0);
            x.hold(e, 0, 0, 1, 0);
            x.gift(e, 0, 0, 0, 1, 0, 0);
        }
        return x;
    }

    private static void trades() {
        TreeTalk x = eightNeedy();
        due("all eight", x.trade(0, 1), 255);
        due("from the first to the second", x.trade(1, 0), NONE);
        x.left(7, true);
        due("of those who sit", x.trade(0, 1), 127);
        x.left(0, true);
        due("of those who sit", x.trade(0, 1), 126);
        x.hold(1, 1, 0, 0, 0);
        due("its way cannot be borne", x.trade(0, 1), NONE);
        x.left(1, true);
        due("but by one that left", x.trade(0, 1), 124);
        for (int e = 2; e < 7; e++) {
            x.left(e, true);
        }
        due("nobody sits", x.trade(0, 1), 0);
        TreeTalk y = eightNeedy();
        y.hold(3, 0, 0, 0, 1);
        due("the fewest", y.trade(0, 1), 255 - 8);
        for (int e = 0; e < 8; e++) {
            y.hold(e, 0, 0, 1, 1);
        }
        due("no gift", y.trade(0, 1), 0);
        y.hold(5, 1, 0, 0, 0);
        due("no gift, where its way cannot be borne", y.trade(0, 1), 0);
        y.hold(5, 1, 0, 1, 0);
        due("no proposal of the second", y.trade(0, 1), NONE);
        for (int m : new int[] {-1, 2, 4, LEAST, MOST}) {
            due("matter " + m, y.trade(m, 0), NONE);
            due("other " + m, y.trade(0, m), NONE);
        }
        due("one matter", y.trade(1, 1), NONE);
        tradesOfThree();
        tradeOfTheFullest();
    }

    private static void tradesOfThree() {
        TreeTalk x = seated(1, 1, 2);
        x.matter(1, 2);
        x.matter(1, 2);
        for (int i = 0; i < 6; i++) {
            x.hold(0, i / 2, 0, i % 2, i == 3 || i == 5 ? 1 : 0);
        }
        x.gift(0, 0, 0, 0, 1, 0, 1);
        x.gift(0, 2, 0, 0, 1, 0, 1);
        due("by gift 0", x.trade(0, 1), 1);
        due("not from the third", x.trade(0, 2), NONE);
        x.hold(0, 2, 0, 1, 0);
        due("gift 1 in the third", x.trade(2, 1), 2);
        due("from that one alone", x.trade(1, 0), NONE);
        x.gift(0, 0, 0, 0, 2, 0, 0);
        due("from a third that cannot be borne", x.trade(0, 2), NONE);
        x.hold(0, 2, 0, 0, 2);
        due("from a third that can", x.trade(0, 2), 4);
    }

    /** As many proposals as can be on both sides. */
    private static void tradeOfTheFullest() {
        TreeTalk x = seated(8, 5, 4);
        x.matter(5, 4);
        due("all proposals", x.trade(0, 1), 0);
        for (int way = 0; way < 4; way++) {
            x.hold(7, 1, 4, way, 0);
        }
        due("the last part of the last one", x.trade(1, 0), NONE);
        for (int i = 0; i < 5; i++) {
            due("gift " + i, x.gift(7, 1, 4, 3, 0, i, 3), i);
        }
        due("the first of five", x.trade(1, 0), 1);
        x.hold(0, 0, 0, 3, 0);
        due("the second of five", x.trade(1, 0), 2);
    }

    private static void tradeSets() {
        TreeTalk x = seated(1, 2, 2);
        x.matter(1, 2);
        for (int i = 0; i < 4; i++) {
            x.hold(0, 0, i / 2, i % 2, 0);
        }
        due("none at all", x.trade(0, 1), NONE);
        x.gift(0, 0, 0, 0, 1, 0, 0);
        x.gift(0, 0, 0, 1, 1, 0, 1);
        x.gift(0, 0, 0, 1, 1, 0, 0);
        due("one part alone", x.trade(0, 1), NONE);
        x.gift(0, 0, 1, 0, 1, 0, 1);
        due("gifts 1 and 3", x.trade(0, 1), 2 | 8);
        x.gift(0, 0, 1, 1, 1, 0, 0);
        due("gifts 0 and 4 first", x.trade(0, 1), 1 | 16);
        x.gift(0, 0, 1, 1, 1, 0, 0);
        due("not 5 for 4", x.trade(0, 1), 1 | 16);
        x.hold(0, 1, 0, 0, 0);
        due("gifts 1 and 3 again", x.trade(0, 1), 2 | 8);
        x.hold(0, 0, 0, 0, 1);
        due("gift 3 alone", x.trade(0, 1), 8);
        x.clash(0, 0, 0, 0, 1, 0);
        due("but a clash", x.trade(0, 1), 2 | 8);
    }

    private static void hands() {
        TreeTalk x = seated(8, 5, 4);
        due("the lowest number", x.hands(0, 0), 0);
        due("nobody bound", x.hands(0, 1), 0);
        due("all eight", x.hands(0, 2), 8);
        for (int e = 0; e < 8; e++) {
            for (int w = 0; w < 4; w++) {
                x.hold(e, 0, 2, w, 0);
            }
        }
        due("nobody can: the lowest number", x.hands(0, 0), 0);
        due("all bound", x.hands(0, 1), 255);
        due("no hands", x.hands(0, 2), 0);
        x.hold(7, 0, 4, 3, 2);
        due("nobody can: the least sum of losses", x.hands(0, 0), 3);
        x.hold(7, 0, 2, 3, 1);
        due("one can", x.hands(0, 0), 3 * 16 + 3);
        due("the others are bound", x.hands(0, 1), 127);
        due("one hand", x.hands(0, 2), 1);
        x.left(7, true);
        due("who sits", x.hands(0, 0), 0);
        due("who sits", x.hands(0, 1), 127);
        for (int what : new int[] {-1, 3, LEAST, MOST}) {
            due("what " + what, x.hands(0, what), NONE);
        }
        // 45 of each of eight, and one less
        TreeTalk y = eitherWay();
        for (int e = 0; e < 8; e++) {
            would(y, e, 1, 45);
        }
        due("least losses", y.hands(0, 0), 341);
        for (int e = 0; e < 4; e++) {
            would(y, e, 0, 45);
            for (int p = 0; p < 5; p++) {
                y.hold(e, 0, p, 1, 1);
            }
        }
        due("alike: the lowest number", y.hands(0, 0), 0);
        y.care(7, 0, 4, 8);
        y.care(0, 0, 4, 7);
        due("by one", y.hands(0, 0), 341);
        y.care(7, 0, 4, 7);
        due("alike again", y.hands(0, 0), 0);
    }

    // asides, and what is taken

    private static void sixtyAsides() {
        TreeTalk x = seated(3, 2, 2);
        for (int i = 0; i < 59; i++) {
            yes("aside " + i, x.aside(1, 1, 0, i / 30, 0, i % 2 == 0));
            due("how many", x.count(8), i + 1);
        }
        due("not told yet", x.taken(2, 0, 0, 1, 1), 1);
        yes("the last one", x.aside(0, 4, 0, 1, 1, false));
        due("is heard", x.taken(2, 0, 0, 1, 1), 0);
        no("one more", x.aside(0, 4, 0, 1, 1, true));
        no("one more of another", x.aside(1, 1, 0, 0, 0, false));
        due("is not heard", x.taken(2, 0, 0, 1, 1), 0);
        due("how many", x.count(8), 60);
        due("the first 30, the last of them false", x.taken(0, 1, 0, 0, 0), 0);
        due("the next 29, the last of them true", x.taken(0, 1, 0, 1, 0), 1);
    }

    private static void hearers() {
        TreeTalk x = seated(3, 1, 2);
        for (int some : new int[] {0, -1, 8, 9, 15, 16, 256, LEAST, MOST, LEAST + 1}) {
            no("to " + some, x.aside(0, some, 0, 0, 0, false));
        }
        due("refused", x.count(8), 0);
        for (int some = 1; some < 8; some++) {
            yes("to " + some, x.aside(0, some, 0, 0, 0, false));
        }
        TreeTalk y = seated(8, 1, 2);
        yes("to all", y.aside(7, 255, 0, 0, 1, false));
        yes("to the last", y.aside(0, 128, 0, 0, 1, false));
        no("to one too many", y.aside(7, 256, 0, 0, 1, true));
        no("to one too many among all", y.aside(7, 511, 0, 0, 1, true));
        for (int e = 0; e < 7; e++) {
            due("all heard", y.taken(e, 7, 0, 0, 1), 0);
            due("the last alone heard", e == 0 ? 1 : y.taken(e, 0, 0, 0, 1), 1);
        }
        due("the last alone heard", y.taken(7, 0, 0, 0, 1), 0);
        yes("to itself alone", y.aside(3, 8, 0, 0, 0, false));
        due("nobody else heard", y.taken(0, 3, 0, 0, 0), 1);
        due("how many", y.count(8), 3);
    }

    private static void takenByAsides() {
        TreeTalk x = seated(2, 5, 4);
        x.left(1, true);
        x.hold(1, 0, 4, 3, 2);
        due("at first", x.taken(0, 1, 0, 4, 3), 1);
        x.aside(1, 1, 0, 4, 3, false);
        due("not", x.taken(0, 1, 0, 4, 3), 0);
        x.aside(1, 1, 0, 4, 3, true);
        due("then that it can", x.taken(0, 1, 0, 4, 3), 1);
        x.aside(1, 1, 0, 4, 3, false);
        due("then not again", x.taken(0, 1, 0, 4, 3), 0);
        x.aside(1, 2, 0, 4, 3, true);
        due("one that it did not hear", x.taken(0, 1, 0, 4, 3), 0);
        x.matter(5, 4);
        due("the next matter", x.taken(0, 1, 1, 4, 3), 1);
        x.aside(1, 1, 1, 4, 2, false);
        due("told of the next matter", x.taken(0, 1, 1, 4, 2), 0);
        due("the next way", x.taken(0, 1, 0, 4, 2), 1);
        due("the next part", x.taken(0, 1, 0, 3, 3), 1);
        for (int elder : new int[] {-1, 2, LEAST, MOST}) {
            due("one " + elder, x.taken(elder, 0, 0, 0, 0), NONE);
            due("other " + elder, x.taken(0, elder, 0, 0, 0), NONE);
        }
        due("alike", x.taken(0, 0, 0, 0, 0), NONE);
    }

    private static void takenByTalks() {
        TreeTalk x = seated(3, 5, 4);
        x.hold(1, 0, 4, 0, 0);
        x.hold(1, 0, 4, 3, 2);
        x.left(2, true);
        for (int e = 0; e < 3; e += 2) {
            due("NO", x.taken(e, 1, 0, 4, 0), 0);
            due("FOR", x.taken(e, 1, 0, 4, 3), 2);
            due("neither", x.taken(e, 1, 0, 4, 1), 1);
        }
        x.aside(1, 7, 0, 4, 0, true);
        x.aside(1, 7, 0, 4, 3, false);
        x.aside(1, 7, 0, 4, 1, false);
        due("behind the aside", x.taken(0, 1, 0, 4, 0), 0);
        due("behind the aside", x.taken(0, 1, 0, 4, 3), 2);
        due("by the aside", x.taken(0, 1, 0, 4, 1), 0);
        x.matter(5, 4);
        due("in another matter", x.taken(0, 1, 1, 4, 3), 1);
        due("the same way of another part", x.taken(0, 1, 0, 3, 3), 1);
        due("the same way by another one", x.taken(1, 0, 0, 4, 3), 1);
        x.left(1, true);
        due("no talk of its any more", x.taken(0, 1, 0, 4, 3), 0);
        // the later word of two
        TreeTalk y = seated(2, 1, 3);
        y.by(0, law(y, "s:1;d:3"));
        y.minded(0, mind(y, "n:1;c:w+1"));
        int[] wants = {2, 0, 0};
        for (int w = 0; w < 3; w++) {
            due("0 1, 1 2, 2 0: way " + w, y.taken(1, 0, 0, 0, w), wants[w]);
        }
        y.minded(0, mind(y, "n:2-t;c:1"));
        for (int w = 0; w < 3; w++) {
            due("0 1, then 1 0 and 0 1: way " + w, y.taken(1, 0, 0, 0, w), new int[] {0, 2, 1}[w]);
        }
    }

    private static void takenTwice() {
        TreeTalk x = seated(4, 1, 2);
        due("at first", x.twice(0, 1, 3, 0, 0, 0), 1);
        for (int some : new int[] {1, 2, 4, 8, 5, 6, 12, 14, 13}) {
            x.aside(3, some, 0, 0, 0, false);
            due("not both heard it: " + some, x.twice(0, 1, 3, 0, 0, 0), 1);
        }
        x.aside(3, 3, 0, 0, 0, false);
        due("both heard it", x.twice(0, 1, 3, 0, 0, 0), 0);
        due("both heard it", x.twice(1, 0, 3, 0, 0, 0), 0);
        x.aside(3, 1, 0, 0, 0, true);
        due("one heard the later one", x.twice(0, 1, 3, 0, 0, 0), 0);
        x.aside(3, 15, 0, 0, 0, true);
        due("all heard the later one", x.twice(0, 1, 3, 0, 0, 0), 1);
        x.left(0, true);
        x.hold(3, 0, 0, 0, 0);
        due("the talk: NO", x.twice(0, 1, 3, 0, 0, 0), 0);
        due("the talk: FOR", x.twice(0, 1, 3, 0, 0, 1), 2);
        int[][] alike = {{0, 0, 1}, {0, 1, 0}, {1, 0, 0}, {0, 0, 0}};
        for (int[] three : alike) {
            due("two alike", x.twice(three[0], three[1], three[2], 0, 0, 0), NONE);
        }
        for (int elder : new int[] {-1, 4, LEAST, MOST}) {
            due("one " + elder, x.twice(elder, 1, 2, 0, 0, 0), NONE);
            due("other " + elder, x.twice(0, elder, 2, 0, 0, 0), NONE);
            due("third " + elder, x.twice(0, 1, elder, 0, 0, 0), NONE);
        }
    }

    private static void mistaken() {
        TreeTalk x = seated(2, 5, 4);
        due("in no way", x.mistaken(0, 1, 0), 0);
        x.left(1, true);
        for (int i = 0; i < 20; i++) {
            x.hold(1, 0, i / 4, i % 4, i % 2 * 2);
            due("in so many ways", x.mistaken(0, 1, 0), i + 1);
        }
        due("the other one is not", x.mistaken(1, 0, 0), 0);
        for (int i = 0; i < 20; i += 2) {
            x.aside(1, 1, 0, i / 4, i % 4, false);
        }
        due("the half was told", x.mistaken(0, 1, 0), 10);
        x.left(1, false);
        yes("the rest in part by the talk", x.mistaken(0, 1, 0) < 10);
        TreeTalk y = seated(3, 1, 2);
        y.aside(0, 2, 0, 0, 0, false);
        due("told otherwise", y.mistaken(1, 0, 0), 1);
        due("did not hear it", y.mistaken(2, 0, 0), 0);
        due("alike", y.mistaken(1, 1, 0), NONE);
    }

    private static void nosWithoutNeed() {
        TreeTalk x = seated(2, 5, 4);
        x.by(0, law(x, "s:1;d:30"));
        int all = mind(x, "n:k<20?1;n:0;c:w+1");
        x.minded(0, all);
        due("all", x.about(0, 0), x.talk(0, 3));
        due("all", x.about(0, 0), 8);
        due("of one that did not speak", x.about(1, 0), 0);
        for (int w = 0; w < 4; w++) {
            x.hold(0, 0, 0, w, 0);
        }
        due("none, since it cannot bear any", x.about(0, 0), 0);
        x.hold(0, 0, 0, 3, 2);
        due("to the last way alone", x.about(0, 0), 2);
        x.clash(0, 0, 4, 0, 0, 3);
        due("with a clash", x.about(0, 0), 0);
        x.ground(0, 1);
        due("without that clash", x.about(0, 0), 2);
        x.clash(1, 0, 4, 1, 0, 3);
        x.left(1, true);
        due("a clash of another one", x.about(0, 0), 2);
        x.minded(0, NONE);
        x.hold(0, 0, 0, 2, 1);
        due("of its own need", x.about(0, 0), 0);
    }

    private static void dueBack(String what, TreeTalk x, int... want) {
        for (int i = 0; i < 3; i++) {
            due(what + ": " + i, x.back(0, 0, i), want.length == 0 ? NONE : want[i]);
        }
    }

    private static void holdingBack() {
        TreeTalk x = seated(1, 5, 4);
        dueBack("nothing is lost", x);
        x.hold(0, 0, 4, 3, 2);
        x.care(0, 0, 4, 0);
        dueBack("a loss of 0", x);
        x.care(0, 0, 4, 1);
        dueBack("of the last part", x, 4, 0, 1);
        x.hold(0, 0, 0, 3, 2);
        dueBack("of several the lower part", x, 0, 0, 1);
        x.care(0, 0, 4, 9);
        dueBack("but by most", x, 4, 0, 9);
        x.hold(0, 0, 4, 0, 0);
        dueBack("a way it cannot bear is held back from no one", x, 0, 0, 1);
        x.hold(0, 0, 4, 0, 2);
        dueBack("nor one that it would have", x, 0, 0, 1);
        for (int what : new int[] {-1, 3, LEAST, MOST}) {
            due("what " + what, x.back(0, 0, what), NONE);
        }
        due("no such one", x.back(1, 0, 0), NONE);
        x.left(0, true);
        dueBack("one that left", x);
        // of several the lower way: it says no to way 0 or to way 1 of one part, the mind heeds the HOLD of both alike
        TreeTalk y = seated(1, 1, 4);
        y.hold(0, 0, 0, 3, 2);
        y.minded(0, mind(y, "n:w=0&k=0|h=0&w=1?1;n:0;c:k*3+1-k"));
        dueBack("from way 1", y, 0, 1, 1);
        y.minded(0, mind(y, "n:w=0&k=0|h=0&w=1|h=0?1;n:0;c:[1-k]*h*h+3*k+[1-h]*3"));
        dueBack("from way 0 or 1", y, 0, 0, 1);
        dueBackEndings();
        dueBackByPromises();
        dueGreatestGain();
    }

    private static void dueBackEndings() {
        for (String law : new String[] {"d:1", "d:9", "s:0;l:0"}) {
            TreeTalk x = quarrel(law);
            x.hold(0, 0, 0, 1, 2);
            yes("does not rest now", x.talk(0, 0) != 0);
            dueBack("does not rest now", x);
        }
        // it would rest, were its hold another, but it does not now
        TreeTalk y = seated(2, 1, 2);
        y.hold(0, 0, 0, 1, 2);
        y.hold(1, 0, 0, 0, 0);
        y.by(0, law(y, "s:a=0?1;s:0;l:0"));
        dueTalk("fails by silence", y, 0, 3, 1, 0, 0);
        dueBack("fails by silence now", y);
        y.hold(0, 0, 0, 0, 0);
        dueTalk("would rest", y, 0, 0, 2, 1, 1);
        // it rests now, but would not, were its hold another
        TreeTalk x = seated(2, 1, 2);
        x.hold(0, 0, 0, 1, 2);
        dueBack("it rests", x, 0, 0, 1);
        x.by(0, law(x, "d:1"));
        dueBack("it would be over", x);
        x.by(0, law(x, "s:0;l:0"));
        dueBack("it would fail by silence", x);
        x.by(0, NONE);
        x.hold(1, 0, 0, 1, 0);
        dueBack("it would go round", x);
    }

    /** What was promised in a lower matter counts in the talk that would be, too. */
    private static void dueBackByPromises() {
        TreeTalk x = seated(2, 1, 2);
        x.matter(1, 2);
        x.hold(0, 1, 0, 1, 2);
        x.minded(0, mind(x, "n:g=1&h=0?1;n:0"));
        due("without a promise", x.back(0, 1, 2), NONE);
        x.promise(1, 0, 0, 0, 0);
        due("with one that is kept", x.back(0, 1, 2), 1);
        x.ground(0, 1);
        due("with one that is broken", x.back(0, 1, 2), NONE);
    }

    /** One no more brings another elder to speak for the other four parts. */
    private static void dueGreatestGain() {
        TreeTalk x = seated(2, 5, 2);
        would(x, 0, 1, 45);
        x.minded(1, mind(x, "n:f=1&t=1&q=1?1;n:k>0&q>0&w=0?1;n:0;c:1"));
        x.by(0, law(x, "s:1"));
        due("now", x.loss(0, 0, x.talk(0, 2)), 45);
        dueBack("by all", x, 0, 0, 45);
    }

    private static void leans() {
        TreeTalk x = seated(8, 5, 4);
        due("nobody spoke", x.leans(0, 0), 0);
        due("nobody spoke", x.leans(0, 1023), 0);
        for (int e = 0; e < 5; e++) {
            x.hold(e, 0, e, 0, 0);
            x.hold(e, 0, e, 3, 2);
        }
        due("in no part", x.leans(0, 1023), 0);
        due("in all parts", x.leans(0, 0), 5);
        due("in all parts", x.leans(0, 682), 5);
        due("but in the last part", x.leans(0, 3), 4);
        due("but in the first part", x.leans(0, 768), 4);
        x.left(4, true);
        due("a part that nobody spoke of", x.leans(0, 0), 4);
        TreeTalk z = seated(8, 2, 2);
        z.ground(0, 5);
        z.hold(7, 0, 0, 1, 0);
        due("one for way 0", z.leans(0, 0), 0);
        due("one for way 0", z.leans(0, 4), 1);
        due("one for way 0", z.leans(0, 1), 0);
        // two for way 1, two for way 2: each does; then three for way 1
        TreeTalk y = seated(5, 1, 4);
        int m = mind(y, "n:k=0?1;n:0;c:f-f/2*2+1");
        for (int e = 0; e < 4; e++) {
            y.minded(e, m);
        }
        int[] wants = {1, 0, 0, 1};
        for (int p = 0; p < 4; p++) {
            due("of several each does: " + p, y.leans(0, p), wants[p]);
        }
        y.minded(4, m);
        wants = new int[] {1, 0, 1, 1};
        for (int p = 0; p < 4; p++) {
            due("three to two: " + p, y.leans(0, p), wants[p]);
        }
    }

    private static void minds() {
        TreeTalk x = seated(2, 2, 2);
        due("no minds", x.minds(0, 0), 0);
        for (int i = 0; i < 8; i++) {
            mind(x, i < 7 ? "n:q=" + i + "?0" : "n:0");
            due("all of them", x.minds(0, 0), (1 << i + 1) - 1);
        }
        x.hold(0, 0, 1, 0, 0);
        due("no NO to part 1", x.minds(0, 0), 127 - 2);
        due("of the other one", x.minds(1, 0), 255);
        x.minded(0, 7);
        due("no need of its, but no NO", x.minds(0, 0), 2 | 128);
        x.left(0, true);
        due("one that did not look", x.minds(0, 0), 255);
        mindsByPromises();
        x.left(0, false);
        law(x, "s:0");
        x.by(0, 0);
        due("nobody might", x.minds(0, 0), 255);
        for (int elder : new int[] {-1, 2, LEAST, MOST}) {
            due("elder " + elder, x.minds(elder, 0), NONE);
        }
        for (int m : new int[] {-1, 1, LEAST, MOST}) {
            due("matter " + m, x.minds(0, m), NONE);
        }
    }

    private static void mindsByPromises() {
        TreeTalk x = seated(2, 1, 2);
        x.matter(1, 2);
        mind(x, "n:g=1?1;n:0");
        mind(x, "n:g=0?1;n:0");
        mind(x, "n:g=0-1?1;n:0");
        due("no promise, no NO", x.minds(0, 1), 1 | 4);
        x.promise(1, 0, 0, 0, 0);
        due("a kept one, no NO", x.minds(0, 1), 2 | 4);
        due("not of that matter", x.minds(0, 0), 1 | 4);
        x.ground(0, 1);
        due("a broken one, no NO", x.minds(0, 1), 1 | 2);
        x.promise(1, 0, 0, 0, 1);
        due("one kept, one broken, no NO", x.minds(0, 1), 1 | 4);
    }

    private static void counts() {
        TreeTalk x = seated(2, 2, 2);
        x.matter(1, 2);
        x.left(0, true);
        x.clash(0, 0, 0, 0, 1, 0);
        law(x, "s:1");
        mind(x, "n:1");
        x.promise(0, 1, 0, 0, 0);
        x.gift(0, 0, 0, 0, 1, 0, 0);
        x.aside(0, 1, 0, 0, 0, true);
        write(x, "n:1");
        int[] want = {2, 1, 2, 1, 1, 1, 1, 1, 1, 3};
        for (int what = 0; what < 10; what++) {
            due("count " + what, x.count(what), want[what]);
        }
        for (int what : new int[] {-1, 10, 256, LEAST, MOST}) {
            due("count " + what, x.count(what), NONE);
        }
    }

    /** The 512th call still answers as told, also where each call before it was a dear one. */
    private static void manyCalls() {
        TreeTalk x = seated(8, 5, 4);
        for (int e = 0; e < 8; e++) {
            x.hold(e, 0, e % 5, 3, 2);
            x.left(e, e % 3 == 0);
        }
        int made = 8 + 1 + 16;
        for (int call = made; call < 511; call++) {
            switch (call % 4) {
                case 0: due("call " + call, x.back(1, 0, 0), 1); break;
                case 1: due("call " + call, x.minds(1, 0), 0); break;
                case 2: due("call " + call, x.fair(0), 1011); break;
                default: due("call " + call, x.ground(0, call / 4 % 4) ? 1 : 0, 1); break;
            }
        }
        due("call 512", x.count(1), 5);
        TreeTalk y = new TreeTalk();
        for (int call = 0; call < 511; call++) {
            y.elder(20 + call % 80);
        }
        due("call 512", y.count(0), 8);
        TreeTalk z = new TreeTalk();
        for (int call = 0; call < 510; call++) {
            z.feed(-1, call % 2, 0, 0, 0);
        }
        due("call 511", z.feed(1, 1, 1, 1, 1), NONE);
        due("call 512", z.count(9), 157);
    }
}
