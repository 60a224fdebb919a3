/** The bounds of the tape, of laws and minds as texts and of what they are worth: a test for each sentence that names one. */
public final class TextBoundaryTest extends Bench {
    private static final int LAW = 0;
    private static final int MIND = 1;
    private static final String DIGITS = "0123456789";
    private static final String OF_LAWS = "aktfm";
    private static final String OF_MINDS = "heotkaqwgf";

    private TextBoundaryTest() {
    }

    public static void main(String[] args) {
        sentence("Twenty bytes more come to the TAPE (of each number the highest first; bytes of 0 are left out): how many it has. NONE: more than 160.",
            TextBoundaryTest::fedBytes);
        sentence("The TAPE has its first n bytes alone. False: n.", TextBoundaryTest::firstBytes);
        sentence("LAWS and MINDS (8 texts at most each)", TextBoundaryTest::eightTexts);
        sentence("CLAUSES with ; between, one at least", TextBoundaryTest::clauses);
        sentence("a LABEL (of a LAW s l d, of a MIND n c), a :", TextBoundaryTest::labels);
        sentence("perhaps CONDITION ?, then SUM.", TextBoundaryTest::conditions);
        sentence("TRUTHS with | between; TRUTH: UNITS with & between; UNIT: ! UNIT, ( CONDITION ), or SUM, one of = < >, SUM.",
            TextBoundaryTest::units);
        sentence("SUM: TERMS with + or - between; TERM: ATOMS with * or / between", TextBoundaryTest::sums);
        sentence("a number (1 to 4 digits)", TextBoundaryTest::digits);
        sentence("a letter (of a LAW a k t f m, of a MIND h e o t k a q w g f), [ SUM ].", TextBoundaryTest::atoms);
        sentence("(A CLAUSE that goes on with ! or ( behind its : has a CONDITION.)", TextBoundaryTest::surelyConditions);
        sentence("Blanks (32) may stand between all these, not within numbers", TextBoundaryTest::blanks);
        sentence("at most six ( [ and ! within one another.", TextBoundaryTest::sixWithinOneAnother);
        sentence("FAULT: the first byte at which no text can go on (the length, if it ends too early)", TextBoundaryTest::tooEarly);
        sentence("a fifth digit, a seventh of these are such.", TextBoundaryTest::fifthAndSeventh);
        sentence("Behind each sign numbers are within -1,000,000 .. 1,000,000", TextBoundaryTest::withinBounds);
        sentence("/ cuts towards 0, by 0 gives 0.", TextBoundaryTest::divisions);
        sentence("WORTH of a LABEL: the SUM of its first CLAUSE whose CONDITION holds (or has none); there may be none.",
            TextBoundaryTest::firstClause);
        sentence("Letters that are not told of what is asked are 0.", TextBoundaryTest::lettersNotTold);
        sentence("The FAULT of the TAPE as a LAW (0), a MIND (1). NONE: none. -2: no such sort.", TextBoundaryTest::sorts);
        sentence("The TAPE (empty then; if refused it stays) is a LAW: its number.", TextBoundaryTest::tapeBehindLaws);
        sentence("The TAPE (empty then; if refused it stays) is a MIND: its number.", TextBoundaryTest::tapeBehindMinds);
        sentence("WORTH of a MIND's LABEL (its byte), with letters.", TextBoundaryTest::worthOfLabels);
        endTest("all bounds of texts hold");
    }

    // the tape

    private static final int BLANKS = 0x20202020;

    private static TreeTalk tapeOf(int bytes) {
        TreeTalk x = new TreeTalk();
        write(x, " ".repeat(bytes));
        return x;
    }

    private static void fedBytes() {
        due("nothing fed", tapeOf(0).feed(0, 0, 0, 0, 0), 0);
        due("one byte", tapeOf(0).feed(0, 0, 0, 0, 1), 1);
        due("the highest one", tapeOf(0).feed(LEAST, 0, 0, 0, 0), 1);
        due("four", tapeOf(0).feed(0, 0, MOST, 0, 0), 4);
        due("twenty", tapeOf(0).feed(-1, -1, -1, -1, -1), 20);
        due("up to 160", tapeOf(140).feed(-1, -1, -1, -1, -1), 160);
        due("up to 160, zeros left out", tapeOf(159).feed(0, 0, 0x00010000, 0, 0), 160);
        due("none at 160", tapeOf(160).feed(0, 0, 0, 0, 0), 160);
        due("one too many", tapeOf(160).feed(0, 0, 0, 0, 1), NONE);
        due("one too many", tapeOf(141).feed(-1, -1, -1, -1, -1), NONE);
        due("one too many", tapeOf(159).feed(0, 0, 0x00010001, 0, 0), NONE);
        TreeTalk x = tapeOf(158);
        due("a refused one", x.feed('x', 'y', 'z', 0, 0), NONE);
        due("changes nothing", x.count(9), 158);
        due("the next one", x.feed(0, 0, 0, 'n', ':'), 160);
        due("stands where the refused one would have", x.fault(MIND), 160);
        due("then full", x.feed(0, 0, 0, 0, '1'), NONE);
        // each byte of a number and each number has its place
        TreeTalk y = new TreeTalk();
        y.feed(0x6e3a3900, 0x2d005b68, 0x00002b65, 0x5d000000, 0x2a32);
        due("in their order", y.mind(), 0);
        due("in their order", y.worth(0, 'n', 1, 2, 0, 0, 0), 3);
        TreeTalk z = new TreeTalk();
        z.feed(0xffffffff, 0, 0, 0, 0);
        due("bytes above 127 are no signs", z.fault(MIND), 0);
    }

    private static void firstBytes() {
        for (int size : new int[] {0, 1, 160}) {
            yes("all " + size, tapeOf(size).end(size));
            yes("none of " + size, tapeOf(size).end(0));
            TreeTalk x = tapeOf(size);
            for (int n : new int[] {size + 1, -1, 161, LEAST, MOST}) {
                no(n + " of " + size, x.end(n));
                due("refused", x.count(9), size);
            }
        }
        TreeTalk x = new TreeTalk();
        write(x, "n:12");
        yes("but the last one", x.end(3));
        no("that one is gone", x.end(4));
        due("one less", x.count(9), 3);
        x.mind();
        due("its first bytes", x.worth(0, 'n', 0, 0, 0, 0, 0), 1);
        yes("of an empty one", x.end(0));
        no("of an empty one", x.end(1));
    }

    // texts

    private static void eightTexts() {
        TreeTalk x = new TreeTalk();
        for (int i = 0; i < 8; i++) {
            due("a law", law(x, "s:" + i), i);
        }
        due("a ninth law", law(x, "s:8"), NONE);
        due("laws", x.count(4), 8);
        for (int i = 0; i < 8; i++) {
            due("a mind, where there are eight laws", mind(x, "n:" + i), i);
        }
        due("a ninth mind", mind(x, "n:8"), NONE);
        due("minds", x.count(5), 8);
        due("the tape stays", x.count(9), 3);
        due("the eighth", x.worth(7, 'n', 0, 0, 0, 0, 0), 7);
        due("the ninth", orThrows(() -> x.worth(8, 'n', 0, 0, 0, 0, 0)), THROWS);
        TreeTalk y = new TreeTalk();
        for (int i = 0; i < 9; i++) {
            due("minds first", mind(y, "n:" + i), i < 8 ? i : NONE);
        }
        due("a law, where there are eight minds", law(y, "s:1"), 0);
    }

    /** Which bytes (1 .. 255) can stand behind a text: at these the fault is not, at all others it is. */
    private static void goesOn(String text, int sort, String signs) {
        for (int b = 1; b < 256; b++) {
            boolean can = fault(text + (char) b, sort) != text.length();
            due("'" + text + "' goes on with byte " + b, can ? 1 : 0, signs.indexOf(b) >= 0 ? 1 : 0);
        }
    }

    private static void fine(String text, int sort) {
        due("fault of '" + text + "'", fault(text, sort), NONE);
    }

    private static void faulty(String text, int sort, int at) {
        due("fault of '" + text + "'", fault(text, sort), at);
    }

    private static void clauses() {
        faulty("", LAW, 0);
        faulty("", MIND, 0);
        faulty(";", MIND, 0);
        faulty(";n:1", MIND, 0);
        faulty("n:1;", MIND, 4);
        faulty("n:1;;n:1", MIND, 4);
        fine("n:1", MIND);
        fine("n:1;n:1", MIND);
        goesOn("n:1;", MIND, "nc ");
        goesOn("s:1;", LAW, "sld ");
        String most = "n:1;".repeat(39);
        fine(most + "n:1", MIND);
        fine(most + "n:1 ", MIND);
        faulty(most + "n:1;", MIND, 160);
        faulty(most + "s:1", MIND, 156);
        due("the last of 40", worth("c:1;".repeat(39) + "n:8", 'n', 0, 0, 0, 0, 0), 8);
        due("the first of 40", worth("n:8;" + "c:1;".repeat(38) + "n:1", 'n', 0, 0, 0, 0, 0), 8);
    }

    private static void labels() {
        goesOn("", LAW, "sld ");
        goesOn("", MIND, "nc ");
        for (String label : new String[] {"s", "l", "d"}) {
            goesOn(label, LAW, ": ");
            fine(label + ":1", LAW);
            faulty(label + ":1", MIND, 0);
            faulty("n:1;" + label + ":1", MIND, 4);
        }
        for (String label : new String[] {"n", "c"}) {
            goesOn(label, MIND, ": ");
            fine(label + ":1", MIND);
            faulty(label + ":1", LAW, 0);
            faulty("s:1;" + label + ":1", LAW, 4);
        }
    }

    private static void conditions() {
        goesOn("n:", MIND, DIGITS + OF_MINDS + "[!( ");
        goesOn("s:", LAW, DIGITS + OF_LAWS + "[!( ");
        goesOn("n:h=e", MIND, "+-*/&|? ");
        goesOn("n:h=e?", MIND, DIGITS + OF_MINDS + "[ ");
        goesOn("n:h=e?o", MIND, "+-*/; ");
        goesOn("n:h", MIND, "+-*/=<>; ");
        fine("n:h=1?2", MIND);
        faulty("n:?1", MIND, 2);
        faulty("n:h?1", MIND, 3);
        faulty("n:h=1?", MIND, 6);
        faulty("n:h=1?1?1", MIND, 7);
        faulty("n:h=1", MIND, 5);
    }

    private static void units() {
        goesOn("n:h=", MIND, DIGITS + OF_MINDS + "[ ");
        goesOn("n:h=e&", MIND, DIGITS + OF_MINDS + "[!( ");
        goesOn("n:h=e|", MIND, DIGITS + OF_MINDS + "[!( ");
        goesOn("n:h=e&o", MIND, "+-*/=<> ");
        goesOn("n:!", MIND, DIGITS + OF_MINDS + "[!( ");
        goesOn("n:!h", MIND, "+-*/=<> ");
        goesOn("n:!h=e", MIND, "+-*/&|? ");
        goesOn("n:(", MIND, DIGITS + OF_MINDS + "[!( ");
        goesOn("n:(h", MIND, "+-*/=<> ");
        goesOn("n:(h=e", MIND, "+-*/&|) ");
        goesOn("n:(h=e)", MIND, "&|? ");
        goesOn("n:!(h=e)", MIND, "&|? ");
        goesOn("s:(!k=t", LAW, "+-*/&|) ");
        due("& before |", worth("n:h=1|h=1&h=2?1;n:0", 'n', 1, 0, 0, 0, 0), 1);
        due("& before |", worth("n:h=2&h=1|h=1?1;n:0", 'n', 1, 0, 0, 0, 0), 1);
        due("( before &", worth("n:(h=1|h=1)&h=2?1;n:0", 'n', 1, 0, 0, 0, 0), 0);
        due("! of one UNIT", worth("n:!h=2&h=2?1;n:0", 'n', 1, 0, 0, 0, 0), 0);
        due("! of all in ( )", worth("n:!(h=2&h=2)?1;n:0", 'n', 1, 0, 0, 0, 0), 1);
        for (int h = 1; h <= 3; h++) {
            due(h + " = 2", worth("n:h=2?1;n:0", 'n', h, 0, 0, 0, 0), h == 2 ? 1 : 0);
            due(h + " < 2", worth("n:h<2?1;n:0", 'n', h, 0, 0, 0, 0), h < 2 ? 1 : 0);
            due(h + " > 2", worth("n:h>2?1;n:0", 'n', h, 0, 0, 0, 0), h > 2 ? 1 : 0);
        }
    }

    private static void sums() {
        for (String sign : new String[] {"+", "-", "*", "/"}) {
            goesOn("n:h" + sign, MIND, DIGITS + OF_MINDS + "[ ");
            goesOn("s:k" + sign, LAW, DIGITS + OF_LAWS + "[ ");
            faulty("n:" + sign + "1", MIND, 2);
            faulty("n:1" + sign, MIND, 4);
        }
        goesOn("n:h+e", MIND, "+-*/=<>; ");
        due("from left to right", worth("n:9-4-3", 'n', 0, 0, 0, 0, 0), 2);
        due("from left to right", worth("n:9/2*2", 'n', 0, 0, 0, 0, 0), 8);
        due("* before +", worth("n:1+2*3+4", 'n', 0, 0, 0, 0, 0), 11);
        due("/ before -", worth("n:9-6/3", 'n', 0, 0, 0, 0, 0), 7);
        due("79 TERMS", worth("n:" + "h+".repeat(78) + "h", 'n', 1, 0, 0, 0, 0), 79);
        due("79 ATOMS", worth("n:" + "h*".repeat(78) + "h", 'n', 1, 0, 0, 0, 0), 1);
    }

    private static void digits() {
        faulty("n:", MIND, 2);
        fine("n:1", MIND);
        fine("n:1234", MIND);
        faulty("n:12345", MIND, 6);
        goesOn("n:123", MIND, DIGITS + "+-*/=<>; ");
        goesOn("n:1234", MIND, "+-*/=<>; ");
        goesOn("n:0000", MIND, "+-*/=<>; ");
        due("the least number", worth("n:0", 'n', 0, 0, 0, 0, 0), 0);
        due("zeros", worth("n:0000", 'n', 0, 0, 0, 0, 0), 0);
        due("zeros before it", worth("n:0009", 'n', 0, 0, 0, 0, 0), 9);
        due("the greatest number", worth("n:9999", 'n', 0, 0, 0, 0, 0), 9999);
        due("each number for itself", worth("n:9999+9999", 'n', 0, 0, 0, 0, 0), 19998);
    }

    private static void atoms() {
        goesOn("n:h=1?", MIND, DIGITS + OF_MINDS + "[ ");
        goesOn("s:k=1?", LAW, DIGITS + OF_LAWS + "[ ");
        goesOn("n:[", MIND, DIGITS + OF_MINDS + "[ ");
        goesOn("n:[h", MIND, "+-*/] ");
        goesOn("n:[h]", MIND, "+-*/=<>; ");
        goesOn("s:[", LAW, DIGITS + OF_LAWS + "[ ");
        for (char letter : OF_MINDS.toCharArray()) {
            fine("n:" + letter, MIND);
            faulty("s:" + letter, LAW, OF_LAWS.indexOf(letter) >= 0 ? NONE : 2);
        }
        for (char letter : OF_LAWS.toCharArray()) {
            fine("d:" + letter, LAW);
            faulty("c:" + letter, MIND, OF_MINDS.indexOf(letter) >= 0 ? NONE : 2);
        }
    }

    private static void surelyConditions() {
        for (String text : new String[] {"n:!", "n:(", "n: !", "n: ("}) {
            goesOn(text + "h", MIND, "+-*/=<> ");
        }
        faulty("n:(h)", MIND, 4);
        faulty("n:(h+1)*2", MIND, 6);
        faulty("n:!h", MIND, 4);
        faulty("n:(h=1)", MIND, 7);
        faulty("n:!h=1", MIND, 6);
        fine("n:!h=1?1", MIND);
        fine("n:(h=1)?1", MIND);
        fine("n:[h]", MIND);
        fine("n:[h]=1?1", MIND);
    }

    private static void blanks() {
        String text = "n:!(h+12=[e])&o>3|t<4?k*2-[a/3];c:5";
        fine(text, MIND);
        for (int i = 1; i < text.length(); i++) {
            String with = text.substring(0, i) + " " + text.substring(i);
            boolean within = text.startsWith("12", i - 1);
            faulty(with, MIND, within ? i + 1 : NONE);
            for (char other : new char[] {31, '"', '\t', '\n', 160}) {
                faulty(text.substring(0, i) + other + text.substring(i), MIND, i);
            }
        }
        due("many blanks", worth(" ".repeat(78) + "n" + " ".repeat(40) + ":" + " ".repeat(37) + "123", 'n', 0, 0, 0, 0, 0), 123);
        faulty("n" + " ".repeat(159), MIND, 160);
        faulty("n:1 2", MIND, 4);
        faulty("n:12   34", MIND, 7);
        goesOn("n:1 ", MIND, "+-*/=<>; ");
    }

    private static void sixWithinOneAnother() {
        fine("n:((((((h=1))))))?1", MIND);
        fine("n:!!!!!!h=1?1", MIND);
        fine("n:[[[[[[1]]]]]]", MIND);
        fine("n:h=1?[[[[[[1]]]]]]", MIND);
        fine("n:!(!(!(h=1)))?1", MIND);
        fine("n:(!([[[1]]]=1))&h=1?1", MIND);
        fine("n:!!!([[h]]=1)?1", MIND);
        // those that do not stand within one another do not count together
        fine("n:!!!!!!h=1&!!!!!!h=1|((((((h=1))))))&[[[[[[h]]]]]]=1?[[[[[[1]]]]]]", MIND);
        fine("n:[[[[[[1]]]]]]+[[[[[[1]]]]]]", MIND);
        fine("n:!h=1&!h=1&!h=1&!h=1&!h=1&!h=1&!h=1?1", MIND);
        for (String sign : new String[] {"&", "|"}) {
            fine("n:h=1" + sign + "((((((h=1))))))?1", MIND);
            fine("n:h=1" + sign + "!!!!!!h=1?1", MIND);
            fine("n:h=1" + sign + "[[[[[[h]]]]]]=1?1", MIND);
            faulty("n:h=1" + sign + "!!!!!!!h=1?1", MIND, 12);
            faulty("n:h=1" + sign + "h=1" + sign + "(((((((h=1", MIND, 16);
        }
        fine("n:h=[[[[[[1]]]]]]?1", MIND);
        faulty("n:h=[[[[[[[1", MIND, 10);
        fine("s:!!!!!!k=1?1", LAW);
        due("six ! of what holds", worth("n:!!!!!!h=1?1;n:0", 'n', 1, 0, 0, 0, 0), 1);
        due("five ! of what holds", worth("n:!!!!!h=1?1;n:0", 'n', 1, 0, 0, 0, 0), 0);
        due("six [", worth("n:[[[[[[h+1]*2]+1]*2]+1]*2]", 'n', 1, 0, 0, 0, 0), 22);
    }

    private static void tooEarly() {
        String[] texts = {"n:!(h+12=[e])&o>3|t<4?k*2-[a/3];c:5", "c:[[[[[[1]]]]]]<2?9999;n : q - w ; n:g=f?1", "n:((!(!(h=1|e<2)))&o>1)?[t+1]*2"};
        for (String text : texts) {
            fine(text, MIND);
            for (int i = 0; i < text.length(); i++) {
                String part = text.substring(0, i);
                int at = fault(part, MIND);
                due("fault of '" + part + "'", at == NONE ? i : at, i);
                faulty(part + (char) 200, MIND, i);
            }
        }
        String[] early = {"", "n", "n:", "n:1+", "n:1-", "n:1*", "n:1/", "n:[", "n:[1", "n:!", "n:!1", "n:!1=", "n:!1=1", "n:(", "n:(1", "n:(1=1",
            "n:(1=1)", "n:1=", "n:1<", "n:1>", "n:1=1", "n:1=1&", "n:1=1|", "n:1=1?", "n:1;", "n:1;c", "n:1;c:"};
        for (String text : early) {
            faulty(text, MIND, text.length());
            faulty(text + " ", MIND, text.length() + 1);
        }
        manyLongTexts();
        String longest = "n:1+" + "h+".repeat(78);
        due("160 bytes", longest.length(), 160);
        faulty(longest, MIND, 160);
        fine("n:1+" + "h+".repeat(77) + "h", MIND);
    }

    /** What was read before leaves nothing behind, however much it was. */
    private static void manyLongTexts() {
        TreeTalk x = new TreeTalk();
        write(x, "n:" + "h+".repeat(78) + "1");
        for (int i = 0; i < 400; i++) {
            due("as a mind", x.fault(MIND), NONE);
            i++;
            due("as a law", x.fault(LAW), 0);
        }
        due("a mind", x.mind(), 0);
        due("its worth", x.worth(0, 'n', 2, 0, 0, 0, 0), 157);
        due("a law", law(x, "s:" + "k*".repeat(78) + "1"), 0);
        due("one more", mind(x, "n:" + "e-".repeat(78) + "1"), 1);
        due("its worth", x.worth(1, 'n', 0, 1, 0, 0, 0), -77);
    }

    private static void fifthAndSeventh() {
        faulty("n:12345", MIND, 6);
        faulty("n:00000", MIND, 6);
        faulty("n:h=12345", MIND, 8);
        faulty("n:h=1?1+99999", MIND, 12);
        faulty("c:1;n:1234567", MIND, 10);
        faulty("n: 1234 5", MIND, 8);
        faulty("d:10000", LAW, 6);
        for (String six : new String[] {"((((((", "!!!!!!", "(!(!(!", "!(!!((", "!!!(!("}) {
            goesOn("n:" + six, MIND, DIGITS + OF_MINDS + " ");
            goesOn("s:k=1&" + six, LAW, DIGITS + OF_LAWS + " ");
            goesOn("n:" + six + "h=", MIND, DIGITS + OF_MINDS + " ");
        }
        for (String six : new String[] {"[[[[[[", "!!!!![", "((((([", "!(!([["}) {
            goesOn("n:" + six, MIND, DIGITS + OF_MINDS + " ");
        }
        goesOn("n:h=1?[[[[[[", MIND, DIGITS + OF_MINDS + " ");
        goesOn("n:!!!!!h=", MIND, DIGITS + OF_MINDS + "[ ");
        goesOn("n:!!!!!", MIND, DIGITS + OF_MINDS + "[!( ");
        faulty("n:!!!!!!h=1&!!!!!!!h=1?1", MIND, 18);
        faulty("n:((((((h=1))))))&(((((((h=1", MIND, 24);
        faulty("n:! ! ! ! ! ! !h=1?1", MIND, 14);
    }

    // worth

    private static final int MILLION = 1000000;

    /** The worth of a sum by h, e and o. */
    private static void sum(String sum, int want, int h, int e, int o) {
        due(sum + " by " + h + ", " + e + ", " + o, worth("n:" + sum, 'n', h, e, o, 0, 0), want);
    }

    private static void withinBounds() {
        sum("h+e", MILLION, 999999, 1, 0);
        sum("h+e", MILLION, 999999, 2, 0);
        sum("h+e", 999999, 999998, 1, 0);
        sum("h+e", MILLION, MOST, MOST, 0);
        sum("h+e", -MILLION, LEAST, LEAST, 0);
        sum("h-e", -MILLION, -999999, 1, 0);
        sum("h-e", -MILLION, -999999, 2, 0);
        sum("h-e", -999999, -999998, 1, 0);
        sum("h-e", MILLION, MOST, LEAST, 0);
        sum("h-e", -MILLION, LEAST, MOST, 0);
        sum("0-h", MILLION, LEAST, 0, 0);
        sum("h*e", MILLION, 1000, 1000, 0);
        sum("h*e", MILLION, 1001, 1000, 0);
        sum("h*e", 999000, 999, 1000, 0);
        sum("h*e", -MILLION, -1000, 1000, 0);
        sum("h*e", -MILLION, 1001, -1000, 0);
        sum("h*e", -999000, -999, 1000, 0);
        sum("h*e", MILLION, LEAST, LEAST, 0);
        sum("h*e", MILLION, MOST, MOST, 0);
        sum("h*e", -MILLION, LEAST, MOST, 0);
        sum("h/e", MILLION, 1000000, 1, 0);
        sum("h/e", MILLION, 1000001, 1, 0);
        sum("h/e", -MILLION, 1000001, -1, 0);
        sum("h/e", MILLION, LEAST, -1, 0);
        sum("h/e", -MILLION, LEAST, 1, 0);
        // behind each of several signs, not behind the last one alone
        sum("h+e-o", 999999, 1000000, 1, 1);
        sum("h-e+o", -999999, -1000000, 1, 1);
        sum("h*e/o", 100000, 1000000, 10, 10);
        sum("h*e-o", 999999, 1000000, 2, 1);
        sum("[h+e]*o", -MILLION, 1000000, 1, -1);
        sum("9999*9999-9999*9999", 0, 0, 0, 0);
        sum("9999*9999+1-1", 999999, 0, 0, 0);
        due("in a CONDITION too", worth("n:h*e=o+1?1;n:0", 'n', 1001, 1000, 1000000, 0, 0), 1);
        due("in a CONDITION too", worth("n:h*e>o+1?1;n:0", 'n', 1001, 1000, 1000000, 0, 0), 0);
    }

    private static void divisions() {
        int[][] rows = {{7, 2, 3}, {-7, 2, -3}, {7, -2, -3}, {-7, -2, 3}, {1, 2, 0}, {-1, 2, 0}, {1, -2, 0}, {6, 3, 2}, {-6, 3, -2}, {0, 5, 0},
            {0, -5, 0}, {5, 0, 0}, {-5, 0, 0}, {0, 0, 0}, {LEAST, 0, 0}, {MOST, 0, 0}, {1, MOST, 0}, {1, LEAST, 0}, {LEAST, LEAST, 1}};
        for (int[] row : rows) {
            sum("h/e", row[2], row[0], row[1], 0);
        }
        sum("h/e+o", 4, 9, 0, 4);
        sum("h/[e-e]", 0, 9, 5, 0);
        sum("h/e/o", 0, 9, 2, 0);
        sum("9999/0", 0, 0, 0, 0);
        sum("0/0", 0, 0, 0, 0);
    }

    private static void firstClause() {
        due("none of that label", worth("n:1", 'c', 0, 0, 0, 0, 0), THROWS);
        due("none that holds", worth("n:h=1?1;n:h=2?2", 'n', 3, 0, 0, 0, 0), THROWS);
        due("the first", worth("n:h=1?1;n:h=2?2;n:3", 'n', 1, 0, 0, 0, 0), 1);
        due("the second", worth("n:h=1?1;n:h=2?2;n:3", 'n', 2, 0, 0, 0, 0), 2);
        due("the one without", worth("n:h=1?1;n:h=2?2;n:3", 'n', 3, 0, 0, 0, 0), 3);
        due("one without comes before those behind it", worth("n:3;n:h=1?1", 'n', 1, 0, 0, 0, 0), 3);
        due("of two that hold the first", worth("n:h>0?1;n:h>0?2", 'n', 1, 0, 0, 0, 0), 1);
        due("others of another label", worth("c:h>0?1;n:h>0?2", 'n', 1, 0, 0, 0, 0), 2);
        due("a worth of 0 is one", worth("n:0;n:1", 'n', 0, 0, 0, 0, 0), 0);
        due("a worth below 0 is one", worth("n:0-1;n:1", 'n', 0, 0, 0, 0, 0), -1);
    }

    private static void lettersNotTold() {
        String told = "heotk";
        for (char letter : OF_MINDS.toCharArray()) {
            int want = told.indexOf(letter) >= 0 ? 5 + told.indexOf(letter) : 0;
            due("letter " + letter, worth("n:" + letter, 'n', 5, 6, 7, 8, 9), want);
        }
        TreeTalk x = quarrel("d:1");
        mind(x, "n:a+q+w+g+f");
        x.promise(0, 1, 0, 0, 0);
        x.talk(0, 0);
        due("behind a talk that told them", x.worth(0, 'n', 1, 1, 1, 1, 1), 0);
        due("the least", worth("n:h", 'n', -MILLION, 0, 0, 0, 0), -MILLION);
        due("the greatest", worth("n:k", 'n', 0, 0, 0, 0, MILLION), MILLION);
    }

    private static void sorts() {
        TreeTalk x = new TreeTalk();
        write(x, "n:1");
        due("as a law", x.fault(LAW), 0);
        due("as a mind", x.fault(MIND), NONE);
        for (int sort : new int[] {-1, 2, -2, LEAST, MOST}) {
            due("sort " + sort, x.fault(sort), -2);
        }
        due("the tape stays", x.count(9), 3);
    }

    private static void tapeBehindLaws() {
        TreeTalk x = new TreeTalk();
        due("of nothing", x.law(), NONE);
        write(x, "s:1");
        due("taken", x.law(), 0);
        due("empty then", x.count(9), 0);
        due("of nothing again", x.law(), NONE);
        write(x, "n:1");
        due("refused", x.law(), NONE);
        due("stays", x.count(9), 3);
        due("as it was", x.mind(), 0);
    }

    private static void tapeBehindMinds() {
        TreeTalk x = new TreeTalk();
        due("of nothing", x.mind(), NONE);
        write(x, "n:1");
        due("taken", x.mind(), 0);
        due("empty then", x.count(9), 0);
        due("of nothing again", x.mind(), NONE);
        write(x, "s:1");
        due("refused", x.mind(), NONE);
        due("stays", x.count(9), 3);
        due("as it was", x.law(), 0);
    }

    private static void worthOfLabels() {
        TreeTalk x = new TreeTalk();
        mind(x, "n:1;c:2");
        for (int label = -300; label < 600; label++) {
            int want = label == 'n' ? 1 : label == 'c' ? 2 : THROWS;
            due("label " + label, worth("n:1;c:2", label, 0, 0, 0, 0, 0), want);
        }
        for (int far : new int[] {LEAST, MOST, 'n' | LEAST}) {
            due("label " + far, orThrows(() -> x.worth(0, far, 0, 0, 0, 0, 0)), THROWS);
        }
        for (int mind : new int[] {-1, 1, 8, LEAST, MOST}) {
            due("mind " + mind, orThrows(() -> x.worth(mind, 'n', 0, 0, 0, 0, 0)), THROWS);
        }
    }
}
