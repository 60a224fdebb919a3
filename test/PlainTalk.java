import java.util.ArrayList;
import java.util.Arrays;
import java.util.Collections;
import java.util.HashSet;
import java.util.List;
import java.util.NoSuchElementException;
import java.util.Set;
import java.util.TreeSet;

/** The document once more, as plainly as its words go and apart from the program: nothing is kept that can be worked out. */
final class PlainTalk {
    private static final int NONE = -1;

    private static final class Matter {
        int parts;
        int ways;
        int ground;
        int law = NONE;
    }

    /** A talk as it was gone through, word by word, and each look of each elder. */
    private static final class Course {
        int ending;
        int day;
        int[] ground;
        List<int[]> words = new ArrayList<>();
        /** Of each look: elder, whether it was a no, what each mind would say (then without one). */
        List<int[]> looks = new ArrayList<>();
    }

    private final List<Integer> ages = new ArrayList<>();
    private final Set<Integer> gone = new HashSet<>();
    private final int[][] heed = new int[8][8];
    private final int[] mindOf = new int[8];
    private final List<Matter> matters = new ArrayList<>();
    private final int[][][][] hold = new int[8][4][5][4];
    private final int[][][] care = new int[8][4][5];
    private final List<int[]> clashes = new ArrayList<>();
    private final List<String> laws = new ArrayList<>();
    private final List<String> minds = new ArrayList<>();
    private String tape = "";
    private final List<int[]> promises = new ArrayList<>();
    private final List<int[]> gifts = new ArrayList<>();
    private final List<int[]> asides = new ArrayList<>();

    PlainTalk() {
        Arrays.fill(mindOf, NONE);
        for (int e = 0; e < 8; e++) {
            for (int m = 0; m < 4; m++) {
                Arrays.fill(care[e][m], 1);
                for (int p = 0; p < 5; p++) {
                    Arrays.fill(hold[e][m][p], 1);
                }
            }
        }
    }

    // what there is

    private boolean isElder(int e) {
        return 0 <= e && e < ages.size();
    }

    private boolean isMatter(int m) {
        return 0 <= m && m < matters.size();
    }

    private boolean isPart(int m, int p) {
        return isMatter(m) && 0 <= p && p < matters.get(m).parts;
    }

    private boolean isWay(int m, int p, int w) {
        return isPart(m, p) && 0 <= w && w < matters.get(m).ways;
    }

    /** The ways that a number picks; null if it picks none. */
    private int[] picks(int m, int number) {
        if (!isMatter(m) || number < 0) {
            return null;
        }
        int[] ways = new int[matters.get(m).parts];
        int rest = number;
        for (int p = ways.length - 1; p >= 0; p--) {
            ways[p] = rest % 4;
            rest /= 4;
            if (ways[p] >= matters.get(m).ways) {
                return null;
            }
        }
        return rest == 0 ? ways : null;
    }

    private static int number(int[] ways) {
        int number = 0;
        for (int w : ways) {
            number = number * 4 + w;
        }
        return number;
    }

    private List<int[]> proposals(int m) {
        List<int[]> all = new ArrayList<>();
        for (int number = 0; number < 1024; number++) {
            int[] ways = picks(m, number);
            if (ways != null) {
                all.add(ways);
            }
        }
        return all;
    }

    private List<Integer> seats() {
        List<Integer> seats = new ArrayList<>();
        for (int age = 20; age <= 99; age++) {
            for (int e = 0; e < ages.size(); e++) {
                if (ages.get(e) == age && !gone.contains(e)) {
                    seats.add(e);
                }
            }
        }
        return seats;
    }

    private boolean clashesIn(int e, int m, int p, int[] ways) {
        for (int[] c : clashes) {
            if (c[0] == e && c[1] == m && ways[c[2]] == c[3] && ways[c[4]] == c[5] && (p == NONE || c[2] == p || c[4] == p)) {
                return true;
            }
        }
        return false;
    }

    private boolean bears(int e, int m, int[] ways) {
        for (int p = 0; p < ways.length; p++) {
            if (hold[e][m][p][ways[p]] == 0) {
                return false;
            }
        }
        return !clashesIn(e, m, NONE, ways);
    }

    private boolean allBear(int m, int[] ways, Set<Integer> but) {
        for (int e : seats()) {
            if (!but.contains(e) && !bears(e, m, ways)) {
                return false;
            }
        }
        return true;
    }

    private int lossOf(int e, int m, int[] ways) {
        int loss = 0;
        for (int p = 0; p < ways.length; p++) {
            boolean wants = false;
            for (int w = 0; w < matters.get(m).ways; w++) {
                wants |= hold[e][m][p][w] == 2;
            }
            if (wants && hold[e][m][p][ways[p]] != 2) {
                loss += care[e][m][p];
            }
        }
        return loss;
    }

    // the talk

    private static int[] letters(Object... told) {
        int[] letters = new int[26];
        for (int i = 0; i < told.length; i += 2) {
            letters[(Character) told[i] - 'a'] = (Integer) told[i + 1];
        }
        return letters;
    }

    private Long lawWorth(int m, char label, int[] letters) {
        int law = matters.get(m).law;
        return law == NONE ? null : PlainText.worth(laws.get(law), label, letters);
    }

    private boolean wouldSayNo(int mind, int e, int m, int p, int[] ground, int[] letters) {
        Long worth = mind == NONE ? null : PlainText.worth(minds.get(mind), 'n', letters);
        if (worth != null) {
            return worth != 0;
        }
        return hold[e][m][p][ground[p]] == 0 || clashesIn(e, m, p, ground);
    }

    private int heedOf(int e, List<int[]> words, int p, int w, int which) {
        Set<Integer> who = new TreeSet<>();
        for (int[] word : words) {
            if (word[2] == p && word[which] == w) {
                who.add(word[0]);
            }
        }
        int sum = 0;
        for (int other : who) {
            sum += heed[e][other];
        }
        return sum;
    }

    private boolean isKept(int[] promise) {
        Course course = course(promise[2]);
        return course.ending == 0 && course.ground[promise[3]] == promise[4];
    }

    private int gain(int e, int m) {
        int gain = 0;
        for (int[] promise : promises) {
            if (promise[1] == e && promise[2] < m) {
                gain += isKept(promise) ? 1 : -1;
            }
        }
        return gain;
    }

    private Course course(int m) {
        Course c = new Course();
        List<Integer> seats = seats();
        int sit = seats.size();
        c.ground = picks(m, matters.get(m).ground);
        int[] spoke = new int[8];
        int[] gains = new int[8];
        for (int e : seats) {
            gains[e] = gain(e, m);
        }
        Long told = lawWorth(m, 'd', letters('m', sit));
        long last = told == null ? 30 : Math.max(1, Math.min(30, told));
        Set<String> earlier = new HashSet<>();
        for (c.day = 1;; c.day++) {
            int today = 0;
            for (int a = 0; a < sit; a++) {
                int e = seats.get(a);
                Long may = lawWorth(m, 's', letters('a', a, 'k', spoke[e], 't', c.day, 'f', today, 'm', sit));
                if (may == null ? spoke[e] < 3 : may != 0) {
                    int[] word = turn(c, m, e, a, spoke[e], today, gains[e]);
                    if (word != null) {
                        c.words.add(word);
                        c.ground[word[2]] = word[4];
                        spoke[e]++;
                        today++;
                    }
                }
            }
            if (today == 0) {
                Long silence = lawWorth(m, 'l', letters('t', c.day, 'm', sit));
                boolean fails = silence != null && silence == 0 && !allBear(m, c.ground, Set.of());
                c.ending = fails ? 3 : 0;
                return c;
            }
            if (c.day == last) {
                c.ending = 1;
                return c;
            }
            TreeSet<String> state = new TreeSet<>();
            state.add("ground" + Arrays.toString(c.ground));
            for (int[] w : c.words) {
                state.add(w[0] + " no " + w[2] + " " + w[3]);
                state.add(w[0] + " for " + w[2] + " " + w[4]);
            }
            if (!earlier.add(state.toString())) {
                c.ending = 2;
                return c;
            }
        }
    }

    private int[] turn(Course c, int m, int e, int a, int k, int f, int g) {
        for (int p = 0; p < matters.get(m).parts; p++) {
            int w = c.ground[p];
            int[] letters = letters('h', hold[e][m][p][w], 'e', heedOf(e, c.words, p, w, 4), 'o', heedOf(e, c.words, p, w, 3),
                't', c.day, 'k', k, 'a', a, 'f', f, 'q', p, 'w', w, 'g', g);
            boolean no = wouldSayNo(mindOf[e], e, m, p, c.ground, letters);
            int[] look = new int[2 + minds.size()];
            look[0] = e;
            look[1] = no ? 1 : 0;
            for (int i = 0; i < minds.size(); i++) {
                look[2 + i] = wouldSayNo(i, e, m, p, c.ground, letters) ? 1 : 0;
            }
            c.looks.add(look);
            if (no) {
                Long told = mindOf[e] == NONE ? null : PlainText.worth(minds.get(mindOf[e]), 'c', letters);
                if (told != null && told >= 0 && told < matters.get(m).ways && told != w) {
                    return new int[] {e, c.day, p, w, (int) (long) told};
                }
                for (int h = 2; h >= 0; h--) {
                    for (int other = 0; other < matters.get(m).ways; other++) {
                        if (other != w && hold[e][m][p][other] == h) {
                            return new int[] {e, c.day, p, w, other};
                        }
                    }
                }
            }
        }
        return null;
    }

    // sets as bits, in their order: the fewest first, then the one with the lower where two first differ

    private static List<Integer> setsInOrder(int size) {
        List<List<Integer>> sets = new ArrayList<>();
        for (int bits = 0; bits < 1 << size; bits++) {
            List<Integer> set = new ArrayList<>();
            for (int i = 0; i < size; i++) {
                if ((bits >> i & 1) != 0) {
                    set.add(i);
                }
            }
            sets.add(set);
        }
        sets.sort((one, other) -> {
            if (one.size() != other.size()) {
                return one.size() - other.size();
            }
            for (int i = 0; i < one.size(); i++) {
                if (!one.get(i).equals(other.get(i))) {
                    return one.get(i) - other.get(i);
                }
            }
            return 0;
        });
        List<Integer> bits = new ArrayList<>();
        for (List<Integer> set : sets) {
            int sum = 0;
            for (int i : set) {
                sum += 1 << i;
            }
            bits.add(sum);
        }
        return bits;
    }

    private static Set<Integer> members(int bits) {
        Set<Integer> set = new TreeSet<>();
        for (int i = 0; i < 8; i++) {
            if ((bits >> i & 1) != 0) {
                set.add(i);
            }
        }
        return set;
    }

    // the face

    public int elder(int age) {
        if (age < 20 || age > 99 || ages.size() == 8) {
            return NONE;
        }
        ages.add(age);
        return ages.size() - 1;
    }

    public boolean left(int elder, boolean is) {
        if (!isElder(elder)) {
            return false;
        }
        return is ? gone.add(elder) : gone.remove(elder);
    }

    public int place(int at) {
        return at < 0 || at >= seats().size() ? NONE : seats().get(at);
    }

    public boolean heed(int elder, int other, int v) {
        if (!isElder(elder) || !isElder(other) || elder == other || v < 0 || v > 9) {
            return false;
        }
        heed[elder][other] = v;
        return true;
    }

    public int matter(int parts, int ways) {
        if (parts < 1 || parts > 5 || ways < 2 || ways > 4 || matters.size() == 4) {
            return NONE;
        }
        Matter m = new Matter();
        m.parts = parts;
        m.ways = ways;
        matters.add(m);
        return matters.size() - 1;
    }

    public boolean hold(int elder, int matter, int part, int way, int v) {
        if (!isElder(elder) || !isWay(matter, part, way) || v < 0 || v > 2) {
            return false;
        }
        hold[elder][matter][part][way] = v;
        return true;
    }

    public int held(int elder, int matter, int part, int way) {
        return isElder(elder) && isWay(matter, part, way) ? hold[elder][matter][part][way] : NONE;
    }

    public boolean care(int elder, int matter, int part, int v) {
        if (!isElder(elder) || !isPart(matter, part) || v < 0 || v > 9) {
            return false;
        }
        care[elder][matter][part] = v;
        return true;
    }

    public boolean clash(int elder, int matter, int part, int way, int other, int its) {
        if (!isElder(elder) || !isWay(matter, part, way) || !isWay(matter, other, its) || part == other || clashes.size() == 40) {
            return false;
        }
        clashes.add(new int[] {elder, matter, part, way, other, its});
        return true;
    }

    public int bear(int elder, int matter, int proposal) {
        int[] ways = picks(matter, proposal);
        return !isElder(elder) || ways == null ? NONE : bears(elder, matter, ways) ? 1 : 0;
    }

    public int loss(int elder, int matter, int proposal) {
        int[] ways = picks(matter, proposal);
        return !isElder(elder) || ways == null ? NONE : lossOf(elder, matter, ways);
    }

    public int feed(int a, int b, int c, int d, int e) {
        StringBuilder more = new StringBuilder(tape);
        for (int number : new int[] {a, b, c, d, e}) {
            for (int shift = 24; shift >= 0; shift -= 8) {
                int one = number >>> shift & 0xff;
                if (one != 0) {
                    more.append((char) one);
                }
            }
        }
        if (more.length() > 160) {
            return NONE;
        }
        tape = more.toString();
        return tape.length();
    }

    public boolean end(int n) {
        if (n < 0 || n > tape.length()) {
            return false;
        }
        tape = tape.substring(0, n);
        return true;
    }

    public int fault(int sort) {
        return sort < 0 || sort > 1 ? -2 : PlainText.fault(tape, sort == 0);
    }

    public int law() {
        return text(laws, 0);
    }

    public int mind() {
        return text(minds, 1);
    }

    private int text(List<String> texts, int sort) {
        if (fault(sort) != NONE || texts.size() == 8) {
            return NONE;
        }
        texts.add(tape);
        tape = "";
        return texts.size() - 1;
    }

    public boolean by(int matter, int law) {
        if (!isMatter(matter) || law < NONE || law >= laws.size()) {
            return false;
        }
        matters.get(matter).law = law;
        return true;
    }

    public boolean minded(int elder, int mind) {
        if (!isElder(elder) || mind < NONE || mind >= minds.size()) {
            return false;
        }
        mindOf[elder] = mind;
        return true;
    }

    public int worth(int mind, int label, int h, int e, int o, int t, int k) {
        Long worth = mind < 0 || mind >= minds.size() ? null
            : PlainText.worth(minds.get(mind), label, letters('h', h, 'e', e, 'o', o, 't', t, 'k', k));
        if (worth == null) {
            throw new NoSuchElementException();
        }
        return (int) (long) worth;
    }

    public boolean ground(int matter, int proposal) {
        if (picks(matter, proposal) == null) {
            return false;
        }
        matters.get(matter).ground = proposal;
        return true;
    }

    public int talk(int matter, int what) {
        if (!isMatter(matter) || what < 0 || what > 3) {
            return NONE;
        }
        Course c = course(matter);
        return new int[] {c.ending, c.day, number(c.ground), c.words.size()}[what];
    }

    public int said(int matter, int i, int what) {
        if (!isMatter(matter) || what < 0 || what > 4) {
            throw new NoSuchElementException();
        }
        List<int[]> words = course(matter).words;
        if (i < 0 || i >= words.size()) {
            throw new NoSuchElementException();
        }
        return words.get(i)[what];
    }

    public boolean promise(int elder, int to, int matter, int part, int way) {
        if (!isElder(elder) || !isElder(to) || elder == to || !isWay(matter, part, way) || promises.size() == 20) {
            return false;
        }
        promises.add(new int[] {elder, to, matter, part, way});
        return true;
    }

    public int promised(int elder, boolean kept) {
        if (!isElder(elder)) {
            return NONE;
        }
        int n = 0;
        for (int[] promise : promises) {
            if (promise[0] == elder && isKept(promise) == kept) {
                n++;
            }
        }
        return n;
    }

    private List<int[]> all(int matter) {
        List<int[]> all = proposals(matter);
        all.removeIf(ways -> !allBear(matter, ways, Set.of()));
        return all;
    }

    public int all(int matter, int i) {
        if (!isMatter(matter)) {
            return NONE;
        }
        List<int[]> all = all(matter);
        if (i == NONE) {
            return all.size();
        }
        return i < 0 || i >= all.size() ? NONE : number(all.get(i));
    }

    public int fair(int matter) {
        if (!isMatter(matter)) {
            return NONE;
        }
        int best = NONE;
        List<Integer> least = null;
        for (int[] ways : all(matter)) {
            List<Integer> losses = new ArrayList<>();
            for (int e : seats()) {
                losses.add(lossOf(e, matter, ways));
            }
            losses.sort(Collections.reverseOrder());
            boolean less = least == null;
            for (int i = 0; least != null && i < losses.size(); i++) {
                if (!losses.get(i).equals(least.get(i))) {
                    less = losses.get(i) < least.get(i);
                    break;
                }
            }
            if (less) {
                best = number(ways);
                least = losses;
            }
        }
        return best;
    }

    public int barred(int matter) {
        if (!isMatter(matter) || !all(matter).isEmpty()) {
            return NONE;
        }
        for (int set : setsInOrder(8)) {
            if (seats().containsAll(members(set))) {
                for (int[] ways : proposals(matter)) {
                    if (allBear(matter, ways, members(set))) {
                        return set;
                    }
                }
            }
        }
        throw new AssertionError();
    }

    public int open(int matter) {
        if (!isMatter(matter)) {
            return NONE;
        }
        for (int set : setsInOrder(matters.get(matter).parts)) {
            for (int[] ways : proposals(matter)) {
                if (othersCanStand(matter, ways, members(set))) {
                    return set;
                }
            }
        }
        throw new AssertionError();
    }

    private boolean othersCanStand(int m, int[] ways, Set<Integer> open) {
        for (int e : seats()) {
            for (int p = 0; p < ways.length; p++) {
                if (!open.contains(p) && hold[e][m][p][ways[p]] == 0) {
                    return false;
                }
            }
            for (int[] c : clashes) {
                boolean stands = !open.contains(c[2]) && !open.contains(c[4]);
                if (c[0] == e && c[1] == m && stands && ways[c[2]] == c[3] && ways[c[4]] == c[5]) {
                    return false;
                }
            }
        }
        return true;
    }

    public int gift(int elder, int matter, int part, int way, int other, int its, int had) {
        if (!isElder(elder) || !isWay(matter, part, way) || !isWay(other, its, had) || matter == other || gifts.size() == 8) {
            return NONE;
        }
        gifts.add(new int[] {elder, matter, part, way, other, its, had});
        return gifts.size() - 1;
    }

    public int trade(int matter, int other) {
        if (!isMatter(matter) || !isMatter(other) || matter == other) {
            return NONE;
        }
        List<int[]> seconds = all(other);
        for (int set : setsInOrder(gifts.size())) {
            boolean fits = true;
            for (int i : members(set)) {
                int[] gift = gifts.get(i);
                fits &= gift[1] == matter && gift[4] == other && !gone.contains(gift[0]);
            }
            if (!fits) {
                continue;
            }
            boolean second = false;
            for (int[] ways : seconds) {
                boolean has = true;
                for (int i : members(set)) {
                    has &= ways[gifts.get(i)[5]] == gifts.get(i)[6];
                }
                second |= has;
            }
            if (second && canBearWith(matter, set)) {
                return set;
            }
        }
        return NONE;
    }

    private boolean canBearWith(int matter, int set) {
        int[][] before = new int[gifts.size()][];
        List<int[]> undo = new ArrayList<>();
        for (int i : members(set)) {
            int[] g = gifts.get(i);
            undo.add(new int[] {g[0], g[2], g[3], hold[g[0]][matter][g[2]][g[3]]});
            hold[g[0]][matter][g[2]][g[3]] = 1;
        }
        boolean can = !all(matter).isEmpty();
        Collections.reverse(undo);
        for (int[] u : undo) {
            hold[u[0]][matter][u[1]][u[2]] = u[3];
        }
        return can;
    }

    public int hands(int matter, int what) {
        if (!isMatter(matter) || what < 0 || what > 2) {
            return NONE;
        }
        int[] best = null;
        int most = NONE;
        int least = 0;
        for (int[] ways : proposals(matter)) {
            int up = 0;
            int sum = 0;
            for (int e : seats()) {
                up += bears(e, matter, ways) ? 1 : 0;
                sum += lossOf(e, matter, ways);
            }
            if (up > most || up == most && sum < least) {
                best = ways;
                most = up;
                least = sum;
            }
        }
        int bound = 0;
        for (int e : seats()) {
            bound += bears(e, matter, best) ? 0 : 1 << e;
        }
        return new int[] {number(best), bound, most}[what];
    }

    public boolean aside(int elder, int some, int matter, int part, int way, boolean can) {
        if (!isElder(elder) || some < 1 || some >= 1 << ages.size() || !isWay(matter, part, way) || asides.size() == 60) {
            return false;
        }
        asides.add(new int[] {elder, some, matter, part, way, can ? 1 : 0});
        return true;
    }

    private int takenBy(List<Integer> hearers, int other, int m, int p, int w) {
        int hold = 1;
        for (int[] a : asides) {
            if (a[0] == other && a[2] == m && a[3] == p && a[4] == w && members(a[1]).containsAll(hearers)) {
                hold = a[5];
            }
        }
        for (int[] word : course(m).words) {
            if (word[0] == other && word[2] == p && word[3] == w) {
                hold = 0;
            }
            if (word[0] == other && word[2] == p && word[4] == w) {
                hold = 2;
            }
        }
        return hold;
    }

    public int taken(int one, int other, int matter, int part, int way) {
        if (!isElder(one) || !isElder(other) || one == other || !isWay(matter, part, way)) {
            return NONE;
        }
        return takenBy(List.of(one), other, matter, part, way);
    }

    public int twice(int one, int other, int third, int matter, int part, int way) {
        if (!isElder(one) || !isElder(other) || !isElder(third) || Set.copyOf(List.of(one, other, third)).size() < 3) {
            return NONE;
        }
        return isWay(matter, part, way) ? takenBy(List.of(one, other), third, matter, part, way) : NONE;
    }

    public int mistaken(int one, int other, int matter) {
        if (!isElder(one) || !isElder(other) || one == other || !isMatter(matter)) {
            return NONE;
        }
        int wrong = 0;
        for (int p = 0; p < matters.get(matter).parts; p++) {
            for (int w = 0; w < matters.get(matter).ways; w++) {
                wrong += taken(one, other, matter, p, w) == hold[other][matter][p][w] ? 0 : 1;
            }
        }
        return wrong;
    }

    public int about(int elder, int matter) {
        if (!isElder(elder) || !isMatter(matter)) {
            return NONE;
        }
        int n = 0;
        int[] ground = picks(matter, matters.get(matter).ground);
        for (int[] word : course(matter).words) {
            boolean could = hold[elder][matter][word[2]][word[3]] != 0 && !clashesIn(elder, matter, word[2], ground);
            n += word[0] == elder && could ? 1 : 0;
            ground[word[2]] = word[4];
        }
        return n;
    }

    public int back(int elder, int matter, int what) {
        if (!isElder(elder) || !isMatter(matter) || what < 0 || what > 2) {
            return NONE;
        }
        Course now = course(matter);
        if (now.ending != 0) {
            return NONE;
        }
        int[] best = {NONE, NONE, 0};
        for (int p = 0; p < matters.get(matter).parts; p++) {
            for (int w = 0; w < matters.get(matter).ways; w++) {
                if (hold[elder][matter][p][w] == 1) {
                    hold[elder][matter][p][w] = 0;
                    Course then = course(matter);
                    hold[elder][matter][p][w] = 1;
                    int less = lossOf(elder, matter, now.ground) - lossOf(elder, matter, then.ground);
                    if (then.ending == 0 && less > best[2]) {
                        best = new int[] {p, w, less};
                    }
                }
            }
        }
        return best[2] == 0 ? NONE : best[what];
    }

    public int leans(int matter, int proposal) {
        int[] ways = picks(matter, proposal);
        if (ways == null) {
            return NONE;
        }
        List<int[]> words = course(matter).words;
        int leans = 0;
        for (int p = 0; p < ways.length; p++) {
            List<Integer> voices = new ArrayList<>();
            for (int w = 0; w < matters.get(matter).ways; w++) {
                Set<Integer> who = new HashSet<>();
                for (int[] word : words) {
                    if (word[2] == p && word[4] == w) {
                        who.add(word[0]);
                    }
                }
                voices.add(who.size());
            }
            int most = Collections.max(voices);
            leans += most > 0 && voices.get(ways[p]) != most ? 1 : 0;
        }
        return leans;
    }

    public int minds(int elder, int matter) {
        if (!isElder(elder) || !isMatter(matter)) {
            return NONE;
        }
        int bits = 0;
        List<int[]> looks = course(matter).looks;
        for (int i = 0; i < minds.size(); i++) {
            boolean agrees = true;
            for (int[] look : looks) {
                agrees &= look[0] != elder || look[1] == look[2 + i];
            }
            bits += agrees ? 1 << i : 0;
        }
        return bits;
    }

    public int count(int what) {
        int[] counts = {ages.size(), seats().size(), matters.size(), clashes.size(), laws.size(), minds.size(),
            promises.size(), gifts.size(), asides.size(), tape.length()};
        return what < 0 || what > 9 ? NONE : counts[what];
    }
}
