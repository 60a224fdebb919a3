import java.lang.reflect.InvocationTargetException;
import java.lang.reflect.Method;
import java.lang.reflect.Modifier;
import java.util.ArrayList;
import java.util.Comparator;
import java.util.List;
import java.util.Random;

/**
 * Runs of up to 512 calls, the same on TreeTalk and on PlainTalk; any answer that differs is told.
 * The numbers come from fixed seeds, so that a run that fails fails again.
 */
public final class RandomRunsTest {
    private static final int CALLS = 512;
    private final Random random;
    private final TreeTalk program = new TreeTalk();
    private final PlainTalk plain = new PlainTalk();
    private final List<String> told = new ArrayList<>();
    private final List<Method> methods = new ArrayList<>();
    private final int[] parts = new int[4];
    private final int[] ways = new int[4];
    private final boolean wild;
    private int calls;
    private boolean differs;

    private RandomRunsTest(long seed) {
        random = new Random(seed);
        wild = random.nextInt(4) == 0;
        for (Method m : TreeTalk.class.getDeclaredMethods()) {
            if (Modifier.isPublic(m.getModifiers())) {
                methods.add(m);
            }
        }
        methods.sort(Comparator.comparing(Method::getName));
    }

    public static void main(String[] args) {
        int runs = args.length > 0 ? Integer.parseInt(args[0]) : 400;
        long first = args.length > 1 ? Long.parseLong(args[1]) : 1;
        int wrong = 0;
        for (long seed = first; seed < first + runs; seed++) {
            RandomRunsTest run = new RandomRunsTest(seed);
            run.go();
            if (run.differs) {
                wrong++;
                System.out.println("seed " + seed + ": " + run.told.get(run.told.size() - 1));
                if (wrong > 5) {
                    break;
                }
            }
        }
        System.out.println(wrong == 0 ? runs + " random runs agree" : "random runs differ");
        if (wrong != 0) {
            System.exit(1);
        }
    }

    /** Each run dwells on some sorts of calls, so that what they need comes together. */
    private static final String[] GROUPS = {
        "feed end fault law mind worth worth",
        "talk said hold by minded heed ground talk promised promise",
        "all fair barred open hands hold hold care clash bear loss left",
        "gift trade trade hold ground left clash all",
        "aside taken twice mistaken aside taken twice ground hold left",
        "minds back back back hold hold about leans ground care minded by",
    };

    private void go() {
        if (random.nextInt(12) != 0) {
            settleDown();
        }
        String[] dwelt = GROUPS[upTo(GROUPS.length)].split(" ");
        for (int i = upTo(4); dwelt[0].equals("gift") && program.count(2) > 1 && program.count(0) > 0 && i > 0; i--) {
            wantGifts(upTo(program.count(2)), upTo(program.count(2)), upTo(program.count(0)));
        }
        while (calls < CALLS && !differs) {
            String name = random.nextInt(3) != 0 ? dwelt[upTo(dwelt.length)] : methods.get(upTo(methods.size())).getName();
            if (List.of("feed", "end", "law", "mind", "fault").contains(name)) {
                if (random.nextInt(dwelt[0].equals("feed") ? 3 : 12) == 0) {
                    writeText(random.nextBoolean());
                } else if (random.nextInt(3) == 0) {
                    call(name, arguments(name));
                }
            } else if (!List.of("clash", "left", "elder", "minded", "by").contains(name) || random.nextInt(3) == 0) {
                call(name, arguments(name));
            }
        }
    }

    private int upTo(int bound) {
        return random.nextInt(bound);
    }

    private void settleDown() {
        int elders = random.nextInt(4) == 0 ? 2 + upTo(7) : 2 + upTo(4);
        for (int i = 0; i < elders; i++) {
            call("elder", 20 + upTo(random.nextBoolean() ? 80 : 3));
        }
        int matters = 1 + upTo(random.nextBoolean() ? 2 : 4);
        for (int m = 0; m < matters; m++) {
            int size = 1 + upTo(3) + (wild ? upTo(3) : 0);
            call("matter", Math.min(5, size), 2 + upTo(3));
        }
        for (int i = upTo(13); i > 0; i--) {
            writeText(i % 3 == 0);
        }
        int cannot = upTo(6);
        int would = upTo(5);
        for (int m = 0; m < matters; m++) {
            for (int i = 0; i < elders * parts[m] * ways[m] && i < 40; i++) {
                int v = upTo(10);
                if (v < cannot || v >= 10 - would) {
                    call("hold", upTo(elders), m, upTo(parts[m]), upTo(ways[m]), v < cannot ? 0 : 2);
                }
            }
        }
        for (int e = 0; e < elders; e++) {
            if (random.nextInt(3) != 0) {
                call("minded", e, upTo(Math.max(1, program.count(5))));
            }
            call("heed", e, upTo(elders), upTo(10));
        }
        for (int m = 0; m < matters; m++) {
            if (random.nextInt(3) != 0) {
                call("by", m, upTo(Math.max(1, program.count(4))));
            }
            call("promise", arguments("promise"));
        }
        if (random.nextInt(3) == 0) {
            wantGifts(upTo(matters), upTo(matters), upTo(elders));
        }
    }

    /** One that can bear no way of a part, but for gifts. */
    private void wantGifts(int m, int o, int elder) {
        int part = upTo(parts[m]);
        for (int w = 0; w < ways[m]; w++) {
            call("hold", elder, m, part, w, 0);
        }
        for (int i = upTo(4); i >= 0; i--) {
            call("gift", elder, m, part, upTo(ways[m]), o, upTo(parts[o]), upTo(ways[o]));
        }
        call("trade", m, o);
    }

    private int elder() {
        return upTo(40) == 0 ? upTo(12) - 2 : upTo(Math.max(1, program.count(0)));
    }

    private int matter() {
        return upTo(40) == 0 ? upTo(8) - 2 : upTo(Math.max(1, program.count(2)));
    }

    private int part(int m) {
        boolean known = m >= 0 && m < 4 && parts[m] > 0;
        return !known || upTo(40) == 0 ? upTo(8) - 1 : upTo(parts[m]);
    }

    private int way(int m) {
        boolean known = m >= 0 && m < 4 && ways[m] > 0;
        return !known || upTo(40) == 0 ? upTo(7) - 1 : upTo(ways[m]);
    }

    private int proposal(int m) {
        if (m < 0 || m >= 4 || parts[m] == 0 || upTo(20) == 0) {
            return upTo(1100) - 20;
        }
        int number = 0;
        for (int p = 0; p < parts[m]; p++) {
            number = number * 4 + upTo(ways[m]);
        }
        return number;
    }

    private int small(int from, int to) {
        return upTo(30) == 0 ? anyInt() : from - (upTo(15) == 0 ? 1 : 0) + upTo(to - from + 1 + (upTo(15) == 0 ? 1 : 0));
    }

    private int anyInt() {
        int[] edges = {Integer.MIN_VALUE, Integer.MAX_VALUE, -1, -2, 1000000, 1000001, -1000001, 32, 256};
        return random.nextBoolean() ? random.nextInt() : edges[upTo(edges.length)];
    }

    private Object[] arguments(String name) {
        int m = matter();
        int o = matter();
        switch (name) {
            case "elder": return of(small(20, 99));
            case "left": return of(elder(), random.nextInt(3) != 0 ? program.place(upTo(8)) == -1 : random.nextBoolean());
            case "place": return of(small(0, 7));
            case "heed": return of(elder(), elder(), small(0, 9));
            case "matter": return of(small(1, wild ? 5 : 3), small(2, 4));
            case "hold": return of(elder(), m, part(m), way(m), upTo(20) == 0 ? small(0, 2) : new int[] {0, 0, 1, 2}[upTo(4)]);
            case "held": return of(elder(), m, part(m), way(m));
            case "care": return of(elder(), m, part(m), small(0, 9));
            case "clash": return of(elder(), m, part(m), way(m), part(m), way(m));
            case "bear":
            case "loss": return of(elder(), m, proposal(m));
            case "feed": return of(random.nextInt(), random.nextInt() & 0xff00ff, 0, random.nextInt() & 0x7f7f7f7f, random.nextInt());
            case "end": return of(small(0, 160));
            case "fault": return of(small(0, 1));
            case "by": return of(m, small(-1, 7));
            case "minded": return of(elder(), small(-1, 7));
            case "worth": return of(small(0, 7), upTo(10) == 0 ? small(97, 122) : random.nextBoolean() ? 110 : 99,
                small(0, 2), small(0, 9), small(0, 9), small(1, 5), small(0, 3));
            case "ground": return of(m, proposal(m));
            case "talk": return of(m, small(0, 3));
            case "said": return of(m, small(0, 12), small(0, 4));
            case "promise": return of(elder(), elder(), m, part(m), way(m));
            case "promised": return of(elder(), random.nextBoolean());
            case "all": return of(m, small(-1, 6));
            case "fair":
            case "barred":
            case "open": return of(m);
            case "gift": return gift(m, o);
            case "trade": return of(m, o);
            case "hands": return of(m, small(0, 2));
            case "aside": return of(elder(), upTo(20) == 0 ? anyInt() : upTo(1 << program.count(0)), m, part(m), way(m), random.nextBoolean());
            case "taken": return of(elder(), elder(), m, part(m), way(m));
            case "twice": return of(elder(), elder(), elder(), m, part(m), way(m));
            case "mistaken": return of(elder(), elder(), m);
            case "about": return of(elder(), m);
            case "back": return of(elder(), m, small(0, 2));
            case "leans": return of(m, proposal(m));
            case "minds": return of(elder(), m);
            case "count": return of(small(0, 9));
            default: return of();
        }
    }

    /** Mostly of what an elder cannot bear, since others are not needed. */
    private Object[] gift(int m, int o) {
        Object[] some = of(elder(), m, part(m), way(m), o, part(o), way(o));
        for (int i = 0; i < 20 && program.held((Integer) some[0], m, (Integer) some[2], (Integer) some[3]) != 0; i++) {
            some = of(elder(), m, part(m), way(m), o, part(o), way(o));
        }
        return some;
    }

    private static Object[] of(Object... values) {
        return values;
    }

    // texts

    private void writeText(boolean law) {
        String text = text(law);
        if (upTo(4) == 0) {
            text = spoiled(text);
        }
        if (text.length() > 160) {
            return;
        }
        if (random.nextInt(8) != 0) {
            call("end", 0);
        }
        for (int at = 0; at < text.length(); at += 20) {
            Object[] numbers = new Object[5];
            for (int n = 0; n < 5; n++) {
                int number = 0;
                for (int i = 0; i < 4; i++) {
                    int k = at + 4 * n + i;
                    number = number << 8 | (k < text.length() ? text.charAt(k) : 0);
                }
                numbers[n] = number;
            }
            call("feed", numbers);
        }
        call("fault", law ? 0 : 1);
        if (random.nextInt(4) == 0) {
            call("fault", law ? 1 : 0);
        }
        call(law ? "law" : "mind");
    }

    private static final String[] LAWS = {"l:0", "l:t>2?0", "d:2", "d:m", "s:1", "s:k<2", "s:k=0|t>3?1;s:0", "s:a+t-f;d:9;l:0",
        "s:!(k>f)?1;s:m-a", "d:40", "d:0", "s:f<2?1;s:0;l:m=3?0", "s:1;d:31", "s:t<6?1;d:7", "s:t*a/2"};
    private static final String[] MINDS = {"n:h=0?1;n:o>e?1;n:0", "n:h<2", "n:h<2&t<4?1;n:h=0", "c:[w+1]", "n:q=1&k<2?1;c:3-w",
        "n:e>0?0", "n:g<0", "n:g>0?1;n:h=0?1;n:0", "n:a=0&f=0", "n:h<1|o>4&!(e>o)?1;n:0;c:q+k", "c:t/2;n:t=w+1", "n:1", "n:0", "c:0",
        "n:k<4;c:k*[2-w]"};

    private String text(boolean law) {
        if (random.nextInt(3) != 0) {
            String[] some = law ? LAWS : MINDS;
            return some[upTo(some.length)];
        }
        StringBuilder text = new StringBuilder();
        int clauses = 1 + upTo(4);
        for (int i = 0; i < clauses; i++) {
            if (i > 0) {
                text.append(';');
            }
            String labels = law ? "sld" : "nc";
            text.append(labels.charAt(upTo(labels.length()))).append(':');
            if (random.nextBoolean()) {
                condition(text, law, 0);
                text.append('?');
            }
            sum(text, law, 0);
        }
        return random.nextInt(4) == 0 ? spaced(text.toString()) : text.toString();
    }

    private String spaced(String text) {
        StringBuilder more = new StringBuilder();
        for (int i = 0; i < text.length(); i++) {
            boolean number = i > 0 && Character.isDigit(text.charAt(i)) && Character.isDigit(text.charAt(i - 1));
            if (upTo(5) == 0 && (!number || upTo(20) == 0)) {
                more.append("  ", 0, 1 + upTo(2));
            }
            more.append(text.charAt(i));
        }
        return more.append("  ", 0, upTo(3)).toString();
    }

    private String spoiled(String text) {
        String signs = " ;:?!()[]|&=<>+-*/0123456789heotkaqwgfmsldnc~" + (char) 233;
        StringBuilder other = new StringBuilder(text);
        for (int i = 1 + upTo(2); i > 0 && other.length() > 0; i--) {
            int at = upTo(other.length());
            char sign = signs.charAt(upTo(signs.length()));
            switch (upTo(4)) {
                case 0: other.setCharAt(at, sign); break;
                case 1: other.insert(at, sign); break;
                case 2: other.deleteCharAt(at); break;
                default: other.setLength(at); break;
            }
        }
        if (upTo(6) == 0 && other.length() > 2) {
            int at = upTo(other.length());
            other.insert(at, "!([".split("")[upTo(3)].repeat(4 + upTo(4)));
        }
        return other.toString();
    }

    private void condition(StringBuilder text, boolean law, int depth) {
        unit(text, law, depth);
        for (int i = upTo(4) - 1; i > 0; i--) {
            text.append(random.nextBoolean() ? '&' : '|');
            unit(text, law, depth);
        }
    }

    private void unit(StringBuilder text, boolean law, int depth) {
        int kind = upTo(depth > 5 ? 3 : 6);
        if (kind == 4) {
            text.append('!');
            unit(text, law, depth + 1);
        } else if (kind == 5) {
            text.append('(');
            condition(text, law, depth + 1);
            text.append(')');
        } else {
            sum(text, law, depth);
            text.append("=<>".charAt(upTo(3)));
            sum(text, law, depth);
        }
    }

    private void sum(StringBuilder text, boolean law, int depth) {
        atom(text, law, depth);
        for (int i = upTo(4) - 1; i > 0; i--) {
            text.append("+-*/".charAt(upTo(4)));
            atom(text, law, depth);
        }
    }

    private void atom(StringBuilder text, boolean law, int depth) {
        String letters = law ? "aktfm" : "heotkaqwgf";
        int kind = upTo(depth > 5 ? 7 : 8);
        if (kind < 4) {
            text.append(letters.charAt(upTo(letters.length())));
        } else if (kind < 7) {
            text.append(upTo(upTo(10) == 0 ? 10000 : 4));
        } else {
            text.append('[');
            sum(text, law, depth + 1);
            text.append(']');
        }
    }

    // calls

    private void call(String name, Object... arguments) {
        if (calls >= CALLS || differs) {
            return;
        }
        calls++;
        Object got = answer(TreeTalk.class, program, name, arguments);
        Object due = answer(PlainTalk.class, plain, name, arguments);
        StringBuilder call = new StringBuilder(name).append('(');
        for (int i = 0; i < arguments.length; i++) {
            call.append(i > 0 ? ", " : "").append(arguments[i]);
        }
        call.append(") answered ").append(got);
        if (!got.equals(due)) {
            differs = true;
            call.append(", due is ").append(due);
        }
        told.add(call.toString());
        if (name.equals("matter") && got instanceof Integer && (Integer) got >= 0) {
            parts[(Integer) got] = (Integer) arguments[0];
            ways[(Integer) got] = (Integer) arguments[1];
        }
    }

    private static Object answer(Class<?> of, Object on, String name, Object[] arguments) {
        for (Method m : of.getDeclaredMethods()) {
            if (m.getName().equals(name) && Modifier.isPublic(m.getModifiers()) && m.getParameterCount() == arguments.length) {
                try {
                    return m.invoke(on, arguments);
                } catch (InvocationTargetException e) {
                    return e.getCause().getClass().getName();
                } catch (IllegalAccessException e) {
                    throw new AssertionError(e);
                }
            }
        }
        throw new AssertionError("no method " + name);
    }
}
