import java.lang.reflect.InvocationTargetException;
import java.lang.reflect.Method;
import java.lang.reflect.Modifier;
import java.util.HashMap;
import java.util.Map;
import java.util.NoSuchElementException;
import java.util.function.IntSupplier;

/** What the tests share: telling answers that are not as due, texts on the tape, calls by their names. */
abstract class Bench {
    static final int NONE = TreeTalk.NONE;
    static final int LEAST = Integer.MIN_VALUE;
    static final int MOST = Integer.MAX_VALUE;
    static final int[] WILD = {-1, -2, 1000, LEAST, MOST};
    /** Stands for the NoSuchElementException of a call. */
    static final int THROWS = -77;
    /** Stands for anything else that a call throws, which none ever may. */
    static final int BREAKS = -99;
    /** What of the document is tested just now. */
    static String of = "";
    private static int wrong;
    private static final Map<String, Method> METHODS = new HashMap<>();

    static {
        for (Method m : TreeTalk.class.getDeclaredMethods()) {
            if (Modifier.isPublic(m.getModifiers())) {
                METHODS.put(m.getName(), m);
            }
        }
    }

    /** The test of a sentence that stands in the document. */
    static void sentence(String words, Runnable test) {
        of = '"' + words + '"';
        yes("stands in the document", Document.says(words));
        test.run();
    }

    static void due(String what, long got, long want) {
        if (got != want) {
            wrong++;
            System.out.println(of + ": " + what + " answered " + got + ", due is " + want);
        }
    }

    static void yes(String what, boolean got) {
        due(what, got ? 1 : 0, 1);
    }

    static void no(String what, boolean got) {
        due(what, got ? 1 : 0, 0);
    }

    static void endTest(String fine) {
        System.out.println(wrong == 0 ? fine : wrong + " answers are not as due");
        if (wrong != 0) {
            System.exit(1);
        }
    }

    static int orThrows(IntSupplier call) {
        try {
            return call.getAsInt();
        } catch (NoSuchElementException e) {
            return THROWS;
        }
    }

    /** The answer of a call by its name: true and false count 1 and 0, among what is told as well. */
    static int ask(TreeTalk x, String name, int... told) {
        Method method = METHODS.get(name);
        Class<?>[] types = method.getParameterTypes();
        Object[] values = new Object[told.length];
        for (int i = 0; i < told.length; i++) {
            values[i] = types[i] == boolean.class ? (Object) (told[i] != 0) : (Object) told[i];
        }
        try {
            Object got = method.invoke(x, values);
            return got instanceof Boolean ? (Boolean) got ? 1 : 0 : (Integer) got;
        } catch (InvocationTargetException e) {
            return e.getCause().getClass() == NoSuchElementException.class ? THROWS : BREAKS;
        } catch (IllegalAccessException e) {
            throw new AssertionError(e);
        }
    }

    /** An object with elders of these ages. */
    static TreeTalk tree(int... ages) {
        TreeTalk x = new TreeTalk();
        for (int age : ages) {
            x.elder(age);
        }
        return x;
    }

    static TreeTalk seated(int elders, int parts, int ways) {
        TreeTalk x = new TreeTalk();
        for (int e = 0; e < elders; e++) {
            x.elder(30 + e);
        }
        x.matter(parts, ways);
        return x;
    }

    /** Puts a text on the tape, and nothing else. */
    static void write(TreeTalk x, String text) {
        x.end(0);
        for (int at = 0; at < text.length(); at += 20) {
            x.feed(four(text, at), four(text, at + 4), four(text, at + 8), four(text, at + 12), four(text, at + 16));
        }
    }

    private static int four(String text, int from) {
        int number = 0;
        for (int i = from; i < from + 4; i++) {
            number = number << 8 | (i < text.length() ? text.charAt(i) : 0);
        }
        return number;
    }

    static int mind(TreeTalk x, String text) {
        write(x, text);
        return x.mind();
    }

    static int law(TreeTalk x, String text) {
        write(x, text);
        return x.law();
    }

    static int fault(String text, int sort) {
        TreeTalk x = new TreeTalk();
        write(x, text);
        return x.fault(sort);
    }

    /** What a mind's label is worth, by the letters h e o t k. */
    static int worth(String text, int label, int... letters) {
        TreeTalk x = new TreeTalk();
        int m = mind(x, text);
        return orThrows(() -> x.worth(m, label, letters[0], letters[1], letters[2], letters[3], letters[4]));
    }

    static void dueTalk(String what, TreeTalk x, int matter, int... want) {
        for (int i = 0; i < want.length; i++) {
            due(what + ": talk(" + matter + ", " + i + ")", x.talk(matter, i), want[i]);
        }
    }

    /** Two that can bear no way the other can, so that they speak day for day. */
    static TreeTalk quarrel(String law) {
        TreeTalk x = seated(2, 1, 2);
        x.hold(0, 0, 0, 0, 0);
        x.hold(1, 0, 0, 1, 0);
        if (law != null) {
            x.by(0, law(x, law));
        }
        return x;
    }
}
