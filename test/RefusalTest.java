import java.util.ArrayList;
import java.util.Arrays;
import java.util.HashSet;
import java.util.List;
import java.util.Set;
import java.util.function.Supplier;

/**
 * "What is refused answers as told and changes nothing." For each number that a call takes: the last values that it takes,
 * the first that it does not and the least and the greatest int. Each refused call is made on a new object, before and behind
 * its talks are gone through, and all that can be asked is asked then and compared with what the same object answers without it.
 */
public final class RefusalTest extends Bench {
    private static final int FALSE = 0;
    /** So many questions are put to one object: with the calls that make it they stay below 512. */
    private static final int ASKED = 250;
    private static final Set<String> TESTED = new HashSet<>();

    /** An object of a sort, as it is made each time, and what it answers to all that can be asked. */
    private static final class World {
        final Supplier<TreeTalk> maker;
        final List<Question> questions;
        final int[] answers;

        World(Supplier<TreeTalk> maker, int[]... sizes) {
            this.maker = maker;
            questions = questionsOf(maker, sizes);
            answers = answersOf(this, null, false);
        }
    }

    private static final class Question {
        final String name;
        final int[] told;

        Question(String name, int... told) {
            this.name = name;
            this.told = told;
        }

        int ask(TreeTalk x) {
            return Bench.ask(x, name, told);
        }

        @Override
        public String toString() {
            return name + Arrays.toString(told);
        }
    }

    private RefusalTest() {
    }

    public static void main(String[] args) {
        World lived = new World(RefusalTest::lived, LIVED);
        elders(lived);
        matters(lived);
        texts(lived);
        talks(lived);
        summings(lived);
        gifts(lived);
        words(lived);
        trials(lived);
        summingsThatMayFindNone();
        holdingBack();
        faultyTexts();
        nothingThere();
        everythingFull();
        of = "the document";
        for (String refusal : Document.refusals()) {
            yes("a test of " + refusal, TESTED.contains(refusal));
        }
        endTest("what is refused answers as told and changes nothing");
    }

    // what can be asked

    private static List<Question> questionsOf(Supplier<TreeTalk> maker, int[][] sizes) {
        TreeTalk x = maker.get();
        List<Question> all = new ArrayList<>();
        for (int i = 0; i < 10; i++) {
            all.add(new Question("count", i));
            all.add(new Question("place", i));
        }
        all.add(new Question("fault", 0));
        all.add(new Question("fault", 1));
        for (int mind = 0; mind < x.count(5); mind++) {
            for (int h = 0; h < 3; h++) {
                all.add(new Question("worth", mind, 'n', h, 5, 5, 1, 1));
                all.add(new Question("worth", mind, 'c', h, 2, 9, 2, 3));
            }
        }
        int elders = x.count(0);
        for (int e = 0; e < elders; e++) {
            all.add(new Question("promised", e, 1));
            all.add(new Question("promised", e, 0));
        }
        for (int m = 0; m < sizes.length; m++) {
            askOfMatter(all, maker.get(), m, sizes[m]);
            askOfElders(all, elders, m, sizes[m]);
            for (int o = 0; o < sizes.length; o++) {
                all.add(new Question("trade", m, o));
            }
        }
        return all;
    }

    private static void askOfMatter(List<Question> all, TreeTalk x, int m, int[] size) {
        for (int what = 0; what < 4; what++) {
            all.add(new Question("talk", m, what));
            all.add(new Question("hands", m, Math.min(what, 2)));
        }
        for (int i = 0; i <= Math.min(x.talk(m, 3), 40); i++) {
            for (int what = 0; what < 5; what++) {
                all.add(new Question("said", m, i, what));
            }
        }
        for (int i = NONE; i <= Math.min(x.all(m, NONE), 20); i++) {
            all.add(new Question("all", m, i));
        }
        all.add(new Question("fair", m));
        all.add(new Question("barred", m));
        all.add(new Question("open", m));
        for (int p : proposals(size)) {
            all.add(new Question("leans", m, p));
        }
    }

    private static void askOfElders(List<Question> all, int elders, int m, int[] size) {
        for (int e = 0; e < elders; e++) {
            all.add(new Question("about", e, m));
            all.add(new Question("minds", e, m));
            for (int what = 0; what < 3; what++) {
                all.add(new Question("back", e, m, what));
            }
            for (int p : proposals(size)) {
                all.add(new Question("bear", e, m, p));
                all.add(new Question("loss", e, m, p));
            }
            for (int o = 0; o < elders; o++) {
                all.add(new Question("mistaken", e, o, m));
            }
            for (int way = 0; way < size[0] * size[1]; way++) {
                askOfWay(all, elders, e, m, way / size[1], way % size[1]);
            }
        }
    }

    private static void askOfWay(List<Question> all, int elders, int e, int m, int part, int way) {
        all.add(new Question("held", e, m, part, way));
        for (int o = 0; o < elders; o++) {
            all.add(new Question("taken", o, e, m, part, way));
            for (int third = 0; third < o; third++) {
                all.add(new Question("twice", o, third, e, m, part, way));
            }
        }
    }

    private static List<Integer> proposals(int[] size) {
        List<Integer> some = new ArrayList<>(List.of(0));
        for (int part = 0; part < size[0]; part++) {
            List<Integer> longer = new ArrayList<>();
            for (int p : some) {
                for (int way = 0; way < size[1]; way++) {
                    longer.add(p * 4 + way);
                }
            }
            some = longer;
        }
        return some.size() > 40 ? some.subList(0, 40) : some;
    }

    /** What a world answers to all questions, as many objects as are needed; a call is made first, perhaps behind its talks. */
    private static int[] answersOf(World world, Question call, boolean talksFirst) {
        int[] answers = new int[world.questions.size()];
        TreeTalk x = null;
        for (int i = 0; i < answers.length; i++) {
            if (i % ASKED == 0) {
                x = world.maker.get();
                for (int m = 0; talksFirst && m < 4; m++) {
                    x.talk(m, 0);
                }
                if (call != null) {
                    call.ask(x);
                }
            }
            answers[i] = world.questions.get(i).ask(x);
        }
        return answers;
    }

    // what is said of calls

    /** What the document says of a call that is refused, which the rows behind it test. */
    private static void refusal(String name, String words) {
        of = name + ": " + words;
        yes("stands in the document", Document.says(words));
        TESTED.add(of);
    }

    private static void refused(World world, int answer, String name, int... told) {
        Question call = new Question(name, told);
        due(call.toString(), call.ask(world.maker.get()), answer);
        for (int i = 0; i < 2; i++) {
            int[] then = answersOf(world, call, i == 1);
            for (int q = 0; q < then.length; q++) {
                if (then[q] != world.answers[q]) {
                    due(world.questions.get(q) + " behind the refused " + call, then[q], world.answers[q]);
                    return;
                }
            }
        }
    }

    private static void taken(World world, int refusal, String name, int... told) {
        int got = ask(world.maker.get(), name, told);
        yes(new Question(name, told) + " answered " + got + ": is taken", got != refusal && got != THROWS && got != BREAKS);
    }

    /** A call that is taken and changes something that can be asked; else a refused one that changes it too would not be seen. */
    private static void changes(World world, int refusal, String name, int... told) {
        taken(world, refusal, name, told);
        Question call = new Question(name, told);
        yes(call + " is seen", !Arrays.equals(answersOf(world, call, false), world.answers));
        yes(call + " is seen behind the talks", !Arrays.equals(answersOf(world, call, true), world.answers));
    }

    /** Of one number of a call that is taken: the values that are taken, and those that are not; far off none is. */
    private static void bounds(World world, int refusal, String name, int[] told, int at, int[] good, int... bad) {
        for (int value : good) {
            taken(world, refusal, name, with(told, at, value));
        }
        for (int value : bad) {
            refused(world, refusal, name, with(told, at, value));
        }
        refused(world, refusal, name, with(told, at, LEAST));
        refused(world, refusal, name, with(told, at, MOST));
    }

    private static int[] with(int[] told, int at, int value) {
        int[] other = told.clone();
        other[at] = value;
        return other;
    }

    private static int[] v(int... values) {
        return values;
    }

    // an object of which each sort of call was made

    private static final int[][] LIVED = {{2, 3}, {3, 2}, {1, 4}};
    private static final int[][] LIVED_HOLDS = {{0, 0, 0, 0, 0}, {0, 0, 1, 1, 2}, {1, 0, 1, 0, 0}, {1, 0, 0, 2, 2}, {2, 0, 0, 1, 0},
        {2, 1, 1, 0, 0}, {1, 1, 2, 1, 2}, {0, 2, 0, 0, 0}, {0, 2, 0, 3, 2}, {2, 2, 0, 1, 2}, {3, 0, 0, 0, 2}, {3, 2, 0, 1, 0}};

    /** Four elders, of whom the last has left; a part of the calls that are told of it is what each row below begins with. */
    private static TreeTalk lived() {
        TreeTalk x = tree(40, 30, 50, 35);
        for (int[] size : LIVED) {
            x.matter(size[0], size[1]);
        }
        for (int[] h : LIVED_HOLDS) {
            x.hold(h[0], h[1], h[2], h[3], h[4]);
        }
        x.care(0, 0, 1, 7);
        x.care(1, 0, 0, 3);
        x.clash(2, 0, 0, 0, 1, 1);
        x.clash(0, 1, 0, 0, 2, 0);
        for (int i = 0; i < 16; i++) {
            x.heed(i / 4, i % 4, 5);
        }
        law(x, "s:1-k");
        law(x, "d:4;l:0");
        mind(x, "n:e=5?1;n:h=0?1;n:0");
        mind(x, "n:o=5&k<2?1;n:g>0?1;n:h=0?1;n:0;c:w+1");
        x.by(0, 1);
        x.minded(2, 0);
        x.minded(0, 1);
        x.promise(0, 1, 0, 0, 0);
        x.promise(1, 2, 0, 1, 1);
        x.promise(2, 0, 1, 0, 1);
        x.gift(0, 0, 0, 0, 1, 1, 1);
        x.gift(2, 1, 1, 0, 0, 1, 2);
        x.aside(1, 5, 0, 0, 1, false);
        x.aside(2, 3, 0, 1, 2, true);
        x.aside(0, 14, 1, 0, 0, false);
        x.aside(3, 15, 2, 0, 1, false);
        write(x, "n:h+1");
        x.left(3, true);
        return x;
    }

    private static void elders(World lived) {
        refusal("elder", "NONE: AGE, there are eight");
        changes(lived, NONE, "elder", 50);
        bounds(lived, NONE, "elder", v(50), 0, v(20, 99), 19, 100, 0, -1);
        refusal("left", "False: no such one, it is so");
        changes(lived, FALSE, "left", 0, 1);
        changes(lived, FALSE, "left", 3, 0);
        bounds(lived, FALSE, "left", v(0, 1), 0, v(0, 2), -1, 4);
        bounds(lived, FALSE, "left", v(3, 0), 0, v(3), -1, 4);
        refused(lived, FALSE, "left", 0, 0);
        refused(lived, FALSE, "left", 2, 0);
        refused(lived, FALSE, "left", 3, 1);
        refusal("place", "NONE: nobody");
        bounds(lived, NONE, "place", v(0), 0, v(0, 2), -1, 3);
        refusal("heed", "False: no such ones, alike, out of bounds");
        changes(lived, FALSE, "heed", 2, 1, 9);
        bounds(lived, FALSE, "heed", v(2, 1, 9), 0, v(0, 3), -1, 4);
        bounds(lived, FALSE, "heed", v(2, 1, 9), 1, v(0, 3), -1, 4);
        bounds(lived, FALSE, "heed", v(2, 1, 9), 2, v(0, 9), -1, 10);
        for (int e = 0; e < 4; e++) {
            refused(lived, FALSE, "heed", e, e, 9);
        }
        refusal("promised", "NONE: no such one");
        bounds(lived, NONE, "promised", v(0, 1), 0, v(0, 3), -1, 4);
        bounds(lived, NONE, "promised", v(0, 0), 0, v(0, 3), -1, 4);
        refusal("count", "NONE for others");
        bounds(lived, NONE, "count", v(0), 0, v(0, 9), -1, 10);
    }

    /** The bounds of elder, matter, part and way, where a call's numbers tell them one behind the other. */
    private static void waysBounds(World lived, int refusal, String name, int[] told, int from) {
        bounds(lived, refusal, name, told, from, v(0, 2), -1, 3);
        bounds(lived, refusal, name, told, from + 1, v(0, 1), -1, 2);
        bounds(lived, refusal, name, told, from + 2, v(0, 2), -1, 3);
        refused(lived, refusal, name, with(with(told, from, 1), from + 2, 2));
        refused(lived, refusal, name, with(with(told, from, 2), from + 1, 1));
        taken(lived, refusal, name, with(with(told, from, 1), from + 1, 2));
        taken(lived, refusal, name, with(with(told, from, 2), from + 2, 3));
    }

    private static void matters(World lived) {
        refusal("matter", "NONE: out of bounds, there are four");
        changes(lived, NONE, "matter", 2, 3);
        bounds(lived, NONE, "matter", v(2, 3), 0, v(1, 5), 0, 6, -1);
        bounds(lived, NONE, "matter", v(2, 3), 1, v(2, 4), 1, 5, 0, -1);
        refusal("hold", "False: no such ones, out of bounds");
        changes(lived, FALSE, "hold", 0, 0, 0, 1, 0);
        bounds(lived, FALSE, "hold", v(0, 0, 0, 1, 0), 0, v(0, 3), -1, 4);
        waysBounds(lived, FALSE, "hold", v(0, 0, 0, 1, 0), 1);
        bounds(lived, FALSE, "hold", v(0, 0, 0, 1, 0), 4, v(0, 2), -1, 3);
        refusal("held", "NONE: no such ones");
        bounds(lived, NONE, "held", v(0, 0, 0, 1), 0, v(0, 3), -1, 4);
        waysBounds(lived, NONE, "held", v(0, 0, 0, 1), 1);
        refusal("care", "False: no such ones, out of bounds");
        changes(lived, FALSE, "care", 0, 0, 1, 9);
        bounds(lived, FALSE, "care", v(0, 0, 0, 9), 0, v(0, 3), -1, 4);
        bounds(lived, FALSE, "care", v(0, 0, 0, 9), 1, v(0, 2), -1, 3);
        bounds(lived, FALSE, "care", v(0, 0, 1, 9), 2, v(0, 1), -1, 2);
        bounds(lived, FALSE, "care", v(0, 0, 1, 9), 3, v(0, 9), -1, 10);
        refusal("clash", "False: no such ones, one PART; there were 40");
        changes(lived, FALSE, "clash", 0, 0, 0, 1, 1, 1);
        bounds(lived, FALSE, "clash", v(0, 0, 0, 1, 1, 1), 0, v(0, 3), -1, 4);
        bounds(lived, FALSE, "clash", v(0, 0, 0, 1, 1, 1), 1, v(0, 1), -1, 2, 3);
        bounds(lived, FALSE, "clash", v(0, 0, 0, 1, 1, 1), 2, v(0), -1, 1, 2);
        bounds(lived, FALSE, "clash", v(0, 0, 0, 1, 1, 1), 3, v(0, 2), -1, 3);
        bounds(lived, FALSE, "clash", v(0, 0, 0, 1, 1, 1), 4, v(1), -1, 0, 2);
        bounds(lived, FALSE, "clash", v(0, 0, 0, 1, 1, 1), 5, v(0, 2), -1, 3);
        refused(lived, FALSE, "clash", 0, 0, 1, 1, 1, 1);
        refused(lived, FALSE, "clash", 0, 2, 0, 1, 0, 2);
        for (String name : new String[] {"bear", "loss"}) {
            refusal(name, "NONE: no such ones");
            bounds(lived, NONE, name, v(0, 0, 0), 0, v(0, 3), -1, 4);
            bounds(lived, NONE, name, v(0, 0, 0), 1, v(0, 2), -1, 3);
            bounds(lived, NONE, name, v(0, 0, 0), 2, v(0, 10), -1, 3, 11, 12, 16, 64);
            bounds(lived, NONE, name, v(0, 1, 0), 2, v(0, 21), -1, 2, 22, 32, 64);
            bounds(lived, NONE, name, v(0, 2, 0), 2, v(0, 3), -1, 4, 16);
        }
    }

    private static void texts(World lived) {
        refusal("end", "False: n");
        changes(lived, FALSE, "end", 4);
        bounds(lived, FALSE, "end", v(0), 0, v(0, 5), -1, 6, 160);
        refusal("fault", "-2: no such sort");
        bounds(lived, -2, "fault", v(0), 0, v(0, 1), -1, 2, -2);
        refusal("law", "NONE: a FAULT, there are eight");
        refused(lived, NONE, "law");
        changes(lived, NONE, "mind");
        refusal("feed", "NONE: more than 160");
        changes(lived, NONE, "feed", 0, 0, 0, 0, 1);
        refusal("by", "False: no such ones");
        changes(lived, FALSE, "by", 0, 0);
        bounds(lived, FALSE, "by", v(0, 0), 0, v(0, 2), -1, 3);
        bounds(lived, FALSE, "by", v(0, 0), 1, v(NONE, 0, 1), -2, 2, 8);
        refusal("minded", "False: no such ones");
        changes(lived, FALSE, "minded", 0, 0);
        bounds(lived, FALSE, "minded", v(0, 0), 0, v(0, 3), -1, 4);
        bounds(lived, FALSE, "minded", v(0, 0), 1, v(NONE, 0, 1), -2, 2, 8);
        refusal("worth", "NoSuchElementException: no such ones, there is none");
        bounds(lived, THROWS, "worth", v(0, 'n', 0, 0, 0, 0, 0), 0, v(0, 1), -1, 2, 8);
        bounds(lived, THROWS, "worth", v(1, 'n', 0, 0, 0, 0, 0), 1, v('n', 'c'), 'm', 'o', 'b', 'd', 's', 'N', 0, -1, 'n' + 256, 'n' - 256);
        refused(lived, THROWS, "worth", 0, 'c', 0, 0, 0, 0, 0);
        for (int letter = 2; letter < 7; letter++) {
            taken(lived, THROWS, "worth", with(v(1, 'n', 0, 0, 0, 0, 0), letter, LEAST));
            taken(lived, THROWS, "worth", with(v(1, 'n', 0, 0, 0, 0, 0), letter, MOST));
        }
    }

    private static void talks(World lived) {
        refusal("ground", "False: no such ones");
        changes(lived, FALSE, "ground", 0, 5);
        bounds(lived, FALSE, "ground", v(0, 0), 0, v(0, 2), -1, 3);
        bounds(lived, FALSE, "ground", v(0, 0), 1, v(0, 10), -1, 3, 11, 12, 16, 64);
        bounds(lived, FALSE, "ground", v(1, 0), 1, v(0, 21), -1, 2, 22, 32, 64);
        bounds(lived, FALSE, "ground", v(2, 0), 1, v(0, 3), -1, 4, 16);
        refusal("talk", "NONE: no such ones");
        bounds(lived, NONE, "talk", v(0, 0), 0, v(0, 2), -1, 3);
        bounds(lived, NONE, "talk", v(0, 0), 1, v(0, 3), -1, 4);
        refusal("said", "NoSuchElementException: no such ones");
        for (int m = 0; m < 3; m++) {
            int last = lived().talk(m, 3) - 1;
            yes("somebody spoke", last >= 0);
            bounds(lived, THROWS, "said", v(m, 0, 0), 1, v(0, last), -1, last + 1, 240);
            bounds(lived, THROWS, "said", v(m, last, 0), 2, v(0, 4), -1, 5);
        }
        bounds(lived, THROWS, "said", v(0, 0, 0), 0, v(0, 2), -1, 3);
        refusal("promise", "False: no such ones, to itself; there were 20");
        changes(lived, FALSE, "promise", 0, 1, 0, 0, 1);
        bounds(lived, FALSE, "promise", v(0, 1, 0, 0, 1), 0, v(0, 3), -1, 4);
        bounds(lived, FALSE, "promise", v(1, 0, 0, 0, 1), 1, v(0, 3), -1, 4);
        waysBounds(lived, FALSE, "promise", v(0, 1, 0, 0, 1), 2);
        for (int e = 0; e < 4; e++) {
            refused(lived, FALSE, "promise", e, e, 0, 0, 1);
        }
    }

    private static void summings(World lived) {
        refusal("all", "NONE: without, no such MATTER");
        for (int m = 0; m < 3; m++) {
            int some = lived().all(m, NONE);
            yes("there are some", some > 0);
            bounds(lived, NONE, "all", v(m, 0), 1, v(NONE, 0, some - 1), -2, some, 1024);
        }
        bounds(lived, NONE, "all", v(0, NONE), 0, v(0, 2), -1, 3);
        refusal("open", "NONE: no such MATTER");
        bounds(lived, NONE, "open", v(0), 0, v(0, 2), -1, 3);
        refusal("hands", "NONE: no such ones");
        bounds(lived, NONE, "hands", v(0, 0), 0, v(0, 2), -1, 3);
        bounds(lived, NONE, "hands", v(0, 0), 1, v(0, 2), -1, 3);
        refusal("leans", "NONE: no such ones");
        bounds(lived, NONE, "leans", v(0, 0), 0, v(0, 2), -1, 3);
        bounds(lived, NONE, "leans", v(0, 0), 1, v(0, 10), -1, 3, 11, 12, 16, 64);
        bounds(lived, NONE, "leans", v(1, 0), 1, v(0, 21), -1, 2, 22, 32, 64);
        bounds(lived, NONE, "leans", v(2, 0), 1, v(0, 3), -1, 4, 16);
    }

    private static void gifts(World lived) {
        refusal("gift", "NONE: no such ones, one MATTER, there are eight");
        int[] told = {0, 0, 0, 0, 1, 0, 0};
        changes(lived, NONE, "gift", told);
        bounds(lived, NONE, "gift", told, 0, v(0, 3), -1, 4);
        bounds(lived, NONE, "gift", told, 1, v(0, 2), -1, 1, 3);
        bounds(lived, NONE, "gift", told, 2, v(0, 1), -1, 2);
        bounds(lived, NONE, "gift", told, 3, v(0, 2), -1, 3);
        bounds(lived, NONE, "gift", told, 4, v(1, 2), -1, 0, 3);
        bounds(lived, NONE, "gift", told, 5, v(0, 2), -1, 3);
        bounds(lived, NONE, "gift", told, 6, v(0, 1), -1, 2);
        refused(lived, NONE, "gift", 0, 2, 0, 0, 2, 0, 1);
    }

    private static void words(World lived) {
        refusal("aside", "False: no such ones; there were 60");
        changes(lived, FALSE, "aside", 0, 2, 0, 0, 2, 0);
        bounds(lived, FALSE, "aside", v(0, 2, 0, 0, 1, 0), 0, v(0, 3), -1, 4);
        bounds(lived, FALSE, "aside", v(0, 2, 0, 0, 1, 0), 1, v(1, 8, 15), 0, -1, 16, 17, 31, 256);
        waysBounds(lived, FALSE, "aside", v(0, 2, 0, 0, 1, 0), 2);
        refusal("taken", "NONE: no such ones, alike");
        bounds(lived, NONE, "taken", v(0, 1, 0, 0, 1), 0, v(0, 3), -1, 4);
        bounds(lived, NONE, "taken", v(1, 0, 0, 0, 1), 1, v(0, 3), -1, 4);
        waysBounds(lived, NONE, "taken", v(0, 1, 0, 0, 1), 2);
        refusal("twice", "NONE: no such ones, two alike");
        bounds(lived, NONE, "twice", v(0, 1, 2, 0, 0, 1), 0, v(0, 3), -1, 4);
        bounds(lived, NONE, "twice", v(1, 0, 2, 0, 0, 1), 1, v(0, 3), -1, 4);
        bounds(lived, NONE, "twice", v(1, 2, 0, 0, 0, 1), 2, v(0, 3), -1, 4);
        waysBounds(lived, NONE, "twice", v(0, 1, 2, 0, 0, 1), 3);
        refusal("mistaken", "NONE: no such ones, alike");
        bounds(lived, NONE, "mistaken", v(0, 1, 0), 0, v(0, 3), -1, 4);
        bounds(lived, NONE, "mistaken", v(1, 0, 0), 1, v(0, 3), -1, 4);
        bounds(lived, NONE, "mistaken", v(0, 1, 0), 2, v(0, 2), -1, 3);
        for (int e = 0; e < 4; e++) {
            int o = e == 0 ? 1 : 0;
            refusal("taken", "NONE: no such ones, alike");
            refused(lived, NONE, "taken", e, e, 0, 0, 1);
            refusal("mistaken", "NONE: no such ones, alike");
            refused(lived, NONE, "mistaken", e, e, 0);
            refusal("twice", "NONE: no such ones, two alike");
            refused(lived, NONE, "twice", e, e, o, 0, 0, 1);
            refused(lived, NONE, "twice", e, o, e, 0, 0, 1);
            refused(lived, NONE, "twice", o, e, e, 0, 0, 1);
            refused(lived, NONE, "twice", e, e, e, 0, 0, 1);
        }
    }

    private static void trials(World lived) {
        for (String name : new String[] {"about", "minds"}) {
            refusal(name, "NONE: no such ones");
            bounds(lived, NONE, name, v(0, 0), 0, v(0, 3), -1, 4);
            bounds(lived, NONE, name, v(0, 0), 1, v(0, 2), -1, 3);
        }
    }

    private static void summingsThatMayFindNone() {
        World mild = new World(() -> mattersOf(2, 1, 2, 3), new int[][] {{1, 2}, {1, 2}, {1, 2}});
        refusal("fair", "NONE: there is none, no such MATTER");
        bounds(mild, NONE, "fair", v(0), 0, v(0, 2), -1, 3);
        refusal("trade", "NONE: there is none, no such ones, one MATTER");
        bounds(mild, NONE, "trade", v(0, 1), 0, v(0, 2), -1, 1, 3);
        bounds(mild, NONE, "trade", v(1, 0), 1, v(0, 2), -1, 1, 3);
        refused(mild, NONE, "trade", 0, 0);
        refused(mild, NONE, "trade", 2, 2);
        refusal("barred", "NONE: ALL has some, no such MATTER");
        refused(mild, NONE, "barred", 0);
        refused(mild, NONE, "barred", 2);
        World barred = new World(() -> {
            TreeTalk x = mattersOf(2, 1, 2, 3);
            for (int m = 0; m < 3; m++) {
                x.hold(0, m, 0, 0, 0);
                x.hold(0, m, 0, 1, 0);
            }
            return x;
        }, new int[][] {{1, 2}, {1, 2}, {1, 2}});
        bounds(barred, NONE, "barred", v(0), 0, v(0, 2), -1, 3);
        refusal("fair", "NONE: there is none, no such MATTER");
        refused(barred, NONE, "fair", 0);
        refused(barred, NONE, "fair", 2);
        refusal("trade", "NONE: there is none, no such ones, one MATTER");
        refused(barred, NONE, "trade", 0, 1);
        refused(barred, NONE, "trade", 2, 0);
        refusal("all", "NONE: without, no such MATTER");
        refused(barred, NONE, "all", 0, 0);
    }

    private static TreeTalk mattersOf(int elders, int parts, int ways, int matters) {
        TreeTalk x = seated(elders, parts, ways);
        for (int m = 1; m < matters; m++) {
            x.matter(parts, ways);
        }
        return x;
    }

    private static void holdingBack() {
        refusal("back", "NONE: nothing gains, no such ones");
        World gaining = new World(() -> {
            TreeTalk x = mattersOf(3, 1, 2, 2);
            for (int i = 0; i < 6; i++) {
                x.hold(i / 2, i % 2, 0, 1, 2);
            }
            x.hold(1, 0, 0, 1, 1);
            return x;
        }, new int[][] {{1, 2}, {1, 2}});
        bounds(gaining, NONE, "back", v(0, 0, 2), 0, v(0, 2), -1, 3);
        bounds(gaining, NONE, "back", v(0, 0, 2), 1, v(0, 1), -1, 2);
        bounds(gaining, NONE, "back", v(0, 0, 2), 2, v(0, 2), -1, 3);
        for (int what = 0; what < 3; what++) {
            refused(gaining, NONE, "back", 1, 0, what);
        }
    }

    private static void faultyTexts() {
        String[] neither = {"", " ", "n", "s:", "n:1;", "d:12345", "n:!!!!!!!h=1?1", "l:m]", "x:1", ";"};
        for (String text : neither) {
            World world = written(text);
            of = "law: if refused the TAPE stays: " + text;
            refused(world, NONE, "law");
            of = "mind: if refused the TAPE stays: " + text;
            refused(world, NONE, "mind");
        }
        refusal("mind", "NONE likewise");
        World law = written("s:1");
        refused(law, NONE, "mind");
        changes(law, NONE, "law");
        refusal("law", "NONE: a FAULT, there are eight");
        World mind = written("n:1");
        refused(mind, NONE, "law");
        changes(mind, NONE, "mind");
    }

    private static World written(String text) {
        return new World(() -> {
            TreeTalk x = seated(1, 1, 2);
            law(x, "d:2");
            mind(x, "c:2");
            write(x, text);
            return x;
        }, new int[][] {{1, 2}});
    }

    /** A new object refuses all that needs an elder, a matter, a law or a mind. */
    private static void nothingThere() {
        of = "Nobody sits";
        World empty = new World(TreeTalk::new);
        String[] refusedFalse = {"left 0 1", "left 0 0", "heed 0 1 5", "hold 0 0 0 0 0", "care 0 0 0 0", "clash 0 0 0 0 1 0", "by 0 -1", "by 0 0",
            "minded 0 -1", "minded 0 0", "ground 0 0", "promise 0 1 0 0 0", "aside 0 1 0 0 0 1", "end 1"};
        String[] refusedNone = {"place 0", "held 0 0 0 0", "bear 0 0 0", "loss 0 0 0", "law", "mind", "talk 0 0", "promised 0 1", "all 0 -1", "all 0 0",
            "fair 0", "barred 0", "open 0", "gift 0 0 0 0 1 0 0", "trade 0 1", "hands 0 0", "taken 0 1 0 0 0", "twice 0 1 2 0 0 0", "mistaken 0 1 0",
            "about 0 0", "back 0 0 0", "leans 0 0", "minds 0 0"};
        String[] refusedByThrows = {"worth 0 110 0 0 0 0 0", "said 0 0 0"};
        refusedAll(empty, FALSE, refusedFalse);
        refusedAll(empty, NONE, refusedNone);
        refusedAll(empty, THROWS, refusedByThrows);
        of = "no matter, but elders";
        World elders = new World(() -> tree(30, 40, 50));
        refusedAll(elders, FALSE, "hold 0 0 0 0 0", "care 0 0 0 0", "clash 0 0 0 0 1 0", "promise 0 1 0 0 0", "aside 0 1 0 0 0 1");
        refusedAll(elders, NONE, "held 0 0 0 0", "bear 0 0 0", "loss 0 0 0", "taken 0 1 0 0 0", "twice 0 1 2 0 0 0", "mistaken 0 1 0", "about 0 0",
            "back 0 0 0", "minds 0 0");
        of = "no elder, but matters";
        World matters = new World(() -> mattersOf(0, 2, 2, 2), new int[][] {{2, 2}, {2, 2}});
        refusedAll(matters, FALSE, "hold 0 0 0 0 0", "care 0 0 0 0", "clash 0 0 0 0 1 0", "promise 0 1 0 0 0", "aside 0 1 0 0 0 1");
        refusedAll(matters, NONE, "held 0 0 0 0", "bear 0 0 0", "loss 0 0 0", "gift 0 0 0 0 1 0 0", "taken 0 1 0 0 0", "twice 0 1 2 0 0 0",
            "mistaken 0 1 0", "about 0 0", "back 0 0 0", "minds 0 0", "barred 0");
        refusedAll(matters, THROWS, "said 0 0 0");
    }

    private static void refusedAll(World world, int answer, String... calls) {
        for (String call : calls) {
            String[] words = call.split(" ");
            int[] told = new int[words.length - 1];
            for (int i = 0; i < told.length; i++) {
                told[i] = Integer.parseInt(words[i + 1]);
            }
            refused(world, answer, words[0], told);
        }
    }

    private static final int[][] FULL = {{2, 2}, {1, 4}, {2, 2}, {1, 2}};

    /** As many of everything as there can be, and the tape full. */
    private static TreeTalk full(String text) {
        TreeTalk x = tree(20, 99, 20, 50, 50, 50, 99, 20);
        for (int[] size : FULL) {
            x.matter(size[0], size[1]);
        }
        for (int i = 0; i < 40; i++) {
            x.clash(i % 4, i % 2 * 2, 0, i / 20, 1, i % 3 / 2);
        }
        for (int i = 0; i < 8; i++) {
            law(x, "d:" + i);
            mind(x, "n:h<" + i % 2 + "?1;n:0");
            x.minded(i, i);
            x.hold(i, i % 4, 0, i % 2, 2 * (i % 2));
            x.gift(i, 1, 0, i % 4, 0, i % 2, 0);
        }
        for (int i = 0; i < 20; i++) {
            x.promise(i % 8, (i + 1) % 8, i % 4, 0, i % 2);
        }
        for (int i = 0; i < 60; i++) {
            x.aside(i % 8, 1 + i * 4, i % 4, 0, i % 2, i % 3 == 0);
        }
        write(x, text);
        return x;
    }

    private static void everythingFull() {
        String laws = "s:1;".repeat(40);
        String minds = "n:1;".repeat(40);
        World world = new World(() -> full(laws.substring(0, 159) + " "), FULL);
        TreeTalk x = world.maker.get();
        int[] most = {8, 8, 4, 40, 8, 8, 20, 8, 60, 160};
        of = "all that there can be";
        for (int i = 0; i < most.length; i++) {
            due("count(" + i + ")", x.count(i), most[i]);
        }
        refusedWhereFull(world);
        refusal("law", "NONE: a FAULT, there are eight");
        due("no FAULT", x.fault(0), NONE);
        refused(world, NONE, "law");
        World other = new World(() -> full(minds.substring(0, 159) + " "), FULL);
        refusal("mind", "NONE likewise");
        due("no FAULT", other.maker.get().fault(1), NONE);
        refused(other, NONE, "mind");
    }

    private static void refusedWhereFull(World world) {
        refusal("elder", "NONE: AGE, there are eight");
        refused(world, NONE, "elder", 20);
        refused(world, NONE, "elder", 99);
        refused(world, NONE, "place", 8);
        refusal("matter", "NONE: out of bounds, there are four");
        refused(world, NONE, "matter", 1, 2);
        refused(world, NONE, "matter", 5, 4);
        refused(world, NONE, "talk", 4, 0);
        refusal("clash", "False: no such ones, one PART; there were 40");
        refused(world, FALSE, "clash", 7, 0, 0, 0, 1, 0);
        refused(world, FALSE, "clash", 0, 2, 1, 1, 0, 1);
        refusal("feed", "NONE: more than 160");
        refused(world, NONE, "feed", 0, 0, 0, 0, 1);
        refused(world, NONE, "feed", LEAST, 0, 0, 0, 0);
        refused(world, NONE, "feed", -1, -1, -1, -1, -1);
        refused(world, FALSE, "end", 161);
        refusal("by", "False: no such ones");
        refused(world, FALSE, "by", 0, 8);
        refused(world, FALSE, "by", 4, 0);
        refusal("minded", "False: no such ones");
        refused(world, FALSE, "minded", 0, 8);
        refused(world, FALSE, "minded", 8, 0);
        refusal("promise", "False: no such ones, to itself; there were 20");
        refused(world, FALSE, "promise", 0, 1, 0, 0, 1);
        refused(world, FALSE, "promise", 7, 6, 3, 0, 0);
        refusal("gift", "NONE: no such ones, one MATTER, there are eight");
        refused(world, NONE, "gift", 0, 0, 0, 0, 1, 0, 0);
        refused(world, NONE, "gift", 7, 1, 0, 3, 0, 0, 1);
        refusal("aside", "False: no such ones; there were 60");
        refused(world, FALSE, "aside", 0, 255, 0, 0, 1, 1);
        refused(world, FALSE, "aside", 7, 1, 3, 0, 0, 0);
        refused(world, FALSE, "aside", 0, 256, 0, 0, 1, 1);
    }
}
