import java.util.Arrays;
import java.util.NoSuchElementException;

/** Talk under a tree until nobody says no: elders, matters, the laws of the tree and the minds of the elders. */
public final class TreeTalk {
    public static final int NONE = -1;

    private static final int MOST_ELDERS = 8;
    private static final int MOST_MATTERS = 4;
    private static final int MOST_PARTS = 5;
    private static final int MOST_WAYS = 4;
    private static final int MOST_CLASHES = 40;
    private static final int MOST_TEXTS = 8;
    private static final int MOST_BYTES = 160;
    private static final int MOST_PROMISES = 20;
    private static final int MOST_GIFTS = 8;
    private static final int MOST_ASIDES = 60;
    private static final int LAW = 0;
    private static final int MIND = 1;

    private final Circle circle = new Circle();
    private final Matter[] matters = new Matter[MOST_MATTERS];
    private final Tape tape = new Tape();
    private final Reader reader = new Reader(tape);
    private final Text[] lawTexts = new Text[MOST_TEXTS];
    private final Text[] mindTexts = new Text[MOST_TEXTS];
    private final Scale scale = new Scale();
    private final Talk[] talks = new Talk[MOST_MATTERS];
    private final Talk trial = new Talk(circle, mindTexts, scale);
    private final Pledges pledges = new Pledges(talks);
    private final Council council = new Council(circle);
    private final Gifts gifts = new Gifts(circle);
    private final Asides asides = new Asides();
    private int matterCount;
    private int clashCount;
    private int lawCount;
    private int mindCount;
    private int settledCount;

    public TreeTalk() {
        for (int i = 0; i < MOST_MATTERS; i++) {
            talks[i] = new Talk(circle, mindTexts, scale);
        }
    }

    public int elder(int age) {
        if (age < 20 || age > 99 || circle.size >= MOST_ELDERS) {
            return NONE;
        }
        unsettleFrom(0);
        return circle.add(age);
    }

    public boolean left(int elder, boolean is) {
        if (!circle.has(elder) || circle.sits(elder) != is) {
            return false;
        }
        unsettleFrom(0);
        circle.setSitting(elder, !is);
        return true;
    }

    public int place(int at) {
        return at >= 0 && at < circle.sitting ? circle.seats[at] : NONE;
    }

    public boolean heed(int elder, int other, int v) {
        if (!circle.hasTwo(elder, other) || v < 0 || v > 9) {
            return false;
        }
        unsettleFrom(0);
        circle.heeds[elder][other] = v;
        return true;
    }

    public int matter(int parts, int ways) {
        if (parts < 1 || parts > MOST_PARTS || ways < 2 || ways > MOST_WAYS || matterCount >= MOST_MATTERS) {
            return NONE;
        }
        matters[matterCount] = new Matter(parts, ways);
        matterCount++;
        return matterCount - 1;
    }

    public boolean hold(int elder, int matter, int part, int way, int v) {
        Matter its = matterAt(matter);
        if (its == null || !circle.has(elder) || !its.hasWay(part, way) || v < 0 || v > 2) {
            return false;
        }
        unsettleFrom(matter);
        its.setHold(elder, slot(part, way), v);
        return true;
    }

    public int held(int elder, int matter, int part, int way) {
        Matter its = matterAt(matter);
        if (its == null || !circle.has(elder) || !its.hasWay(part, way)) {
            return NONE;
        }
        return its.holdOf(elder, slot(part, way));
    }

    public boolean care(int elder, int matter, int part, int v) {
        Matter its = matterAt(matter);
        if (its == null || !circle.has(elder) || !its.hasWay(part, 0) || v < 0 || v > 9) {
            return false;
        }
        its.cares[elder][part] = v;
        return true;
    }

    public boolean clash(int elder, int matter, int part, int way, int other, int its) {
        Matter where = matterAt(matter);
        if (where == null || !circle.has(elder) || !where.hasWay(part, way) || !where.hasWay(other, its)) {
            return false;
        }
        if (part == other || clashCount >= MOST_CLASHES) {
            return false;
        }
        unsettleFrom(matter);
        where.addClash(elder, slot(part, way), slot(other, its));
        clashCount++;
        return true;
    }

    public int bear(int elder, int matter, int proposal) {
        Matter its = matterAt(matter);
        if (its == null || !circle.has(elder) || !its.hasProposal(proposal)) {
            return NONE;
        }
        return 1 - (its.unable(its.slotsOf[proposal]) >> elder & 1);
    }

    public int loss(int elder, int matter, int proposal) {
        Matter its = matterAt(matter);
        if (its == null || !circle.has(elder) || !its.hasProposal(proposal)) {
            return NONE;
        }
        return its.lossOf(elder, its.slotsOf[proposal]);
    }

    public int feed(int a, int b, int c, int d, int e) {
        return tape.add(a, b, c, d, e);
    }

    public boolean end(int n) {
        if (n < 0 || n > tape.size) {
            return false;
        }
        tape.size = n;
        return true;
    }

    public int fault(int sort) {
        return sort == LAW || sort == MIND ? reader.faultAs(sort) : -2;
    }

    public int law() {
        if (lawCount >= MOST_TEXTS || reader.faultAs(LAW) != NONE) {
            return NONE;
        }
        lawTexts[lawCount] = reader.readText();
        lawCount++;
        tape.size = 0;
        return lawCount - 1;
    }

    public int mind() {
        if (mindCount >= MOST_TEXTS || reader.faultAs(MIND) != NONE) {
            return NONE;
        }
        mindTexts[mindCount] = reader.readText();
        mindCount++;
        tape.size = 0;
        return mindCount - 1;
    }

    public boolean by(int matter, int law) {
        Matter its = matterAt(matter);
        if (its == null || law < NONE || law >= lawCount) {
            return false;
        }
        unsettleFrom(matter);
        its.law = law == NONE ? null : lawTexts[law];
        return true;
    }

    public boolean minded(int elder, int mind) {
        if (!circle.has(elder) || mind < NONE || mind >= mindCount) {
            return false;
        }
        unsettleFrom(0);
        circle.mindOf[elder] = mind == NONE ? null : mindTexts[mind];
        return true;
    }

    public int worth(int mind, int label, int h, int e, int o, int t, int k) throws NoSuchElementException {
        if (mind < 0 || mind >= mindCount) {
            throw new NoSuchElementException();
        }
        scale.clear();
        scale.tell('h', h);
        scale.tell('e', e);
        scale.tell('o', o);
        scale.tell('t', t);
        scale.tell('k', k);
        long worth = scale.weigh(mindTexts[mind], label);
        if (worth == Scale.NO_WORTH) {
            throw new NoSuchElementException();
        }
        return (int) worth;
    }

    public boolean ground(int matter, int proposal) {
        Matter its = matterAt(matter);
        if (its == null || !its.hasProposal(proposal)) {
            return false;
        }
        unsettleFrom(matter);
        its.ground = proposal;
        return true;
    }

    public int talk(int matter, int what) {
        if (matterAt(matter) == null) {
            return NONE;
        }
        settle(matter);
        Talk its = talks[matter];
        switch (what) {
            case 0: return its.ending;
            case 1: return its.day;
            case 2: return its.ground;
            case 3: return its.spoken;
            default: return NONE;
        }
    }

    public int said(int matter, int i, int what) throws NoSuchElementException {
        if (matterAt(matter) == null || i < 0 || what < 0 || what >= Talk.WORD) {
            throw new NoSuchElementException();
        }
        settle(matter);
        if (i >= talks[matter].spoken) {
            throw new NoSuchElementException();
        }
        return talks[matter].words[i * Talk.WORD + what];
    }

    public boolean promise(int elder, int to, int matter, int part, int way) {
        Matter its = matterAt(matter);
        if (its == null || !circle.hasTwo(elder, to) || !its.hasWay(part, way) || pledges.size >= MOST_PROMISES) {
            return false;
        }
        unsettleFrom(matter);
        pledges.add(elder, to, matter, slot(part, way));
        return true;
    }

    public int promised(int elder, boolean kept) {
        if (!circle.has(elder)) {
            return NONE;
        }
        settle(matterCount - 1);
        return pledges.countOf(elder, kept);
    }

    public int all(int matter, int i) {
        Matter its = matterAt(matter);
        return its == null || i < NONE ? NONE : council.borneByAll(its, i);
    }

    public int fair(int matter) {
        Matter its = matterAt(matter);
        return its == null ? NONE : council.fairest(its);
    }

    public int barred(int matter) {
        Matter its = matterAt(matter);
        return its == null ? NONE : council.barring(its);
    }

    public int open(int matter) {
        Matter its = matterAt(matter);
        return its == null ? NONE : council.fewestOpen(its);
    }

    public int gift(int elder, int matter, int part, int way, int other, int its, int had) {
        Matter first = matterAt(matter);
        Matter second = matterAt(other);
        if (first == null || second == null || matter == other || gifts.size >= MOST_GIFTS) {
            return NONE;
        }
        if (!circle.has(elder) || !first.hasWay(part, way) || !second.hasWay(its, had)) {
            return NONE;
        }
        return gifts.add(elder, matter, slot(part, way), other, slot(its, had));
    }

    public int trade(int matter, int other) {
        Matter first = matterAt(matter);
        Matter second = matterAt(other);
        if (first == null || second == null || matter == other) {
            return NONE;
        }
        return gifts.fewestFor(first, second, gifts.between(matter, other));
    }

    public int hands(int matter, int what) {
        Matter its = matterAt(matter);
        if (its == null || what < 0 || what > 2) {
            return NONE;
        }
        int proposal = council.mostHands(its);
        int bound = its.unable(its.slotsOf[proposal]) & circle.sitters;
        if (what == 0) {
            return proposal;
        }
        return what == 1 ? bound : circle.sitting - Integer.bitCount(bound);
    }

    public boolean aside(int elder, int some, int matter, int part, int way, boolean can) {
        Matter its = matterAt(matter);
        if (its == null || !circle.has(elder) || !its.hasWay(part, way)) {
            return false;
        }
        if (some <= 0 || some >> circle.size != 0 || asides.size >= MOST_ASIDES) {
            return false;
        }
        asides.add(elder, some, matter, slot(part, way), can);
        return true;
    }

    public int taken(int one, int other, int matter, int part, int way) {
        Matter its = matterAt(matter);
        if (its == null || !circle.hasTwo(one, other) || !its.hasWay(part, way)) {
            return NONE;
        }
        settle(matter);
        return takenBy(1 << one, other, matter, part, way);
    }

    public int twice(int one, int other, int third, int matter, int part, int way) {
        Matter its = matterAt(matter);
        if (its == null || !its.hasWay(part, way)) {
            return NONE;
        }
        if (!circle.hasTwo(one, other) || !circle.hasTwo(one, third) || !circle.hasTwo(other, third)) {
            return NONE;
        }
        settle(matter);
        return takenBy(1 << one | 1 << other, third, matter, part, way);
    }

    public int mistaken(int one, int other, int matter) {
        Matter its = matterAt(matter);
        if (its == null || !circle.hasTwo(one, other)) {
            return NONE;
        }
        settle(matter);
        int wrong = 0;
        for (int part = 0; part < its.parts; part++) {
            for (int way = 0; way < its.ways; way++) {
                if (takenBy(1 << one, other, matter, part, way) != its.holdOf(other, slot(part, way))) {
                    wrong++;
                }
            }
        }
        return wrong;
    }

    public int about(int elder, int matter) {
        Matter its = matterAt(matter);
        if (its == null || !circle.has(elder)) {
            return NONE;
        }
        settle(matter);
        return talks[matter].nosWithoutNeed(elder);
    }

    public int back(int elder, int matter, int what) {
        Matter its = matterAt(matter);
        if (its == null || !circle.has(elder) || what < 0 || what > 2) {
            return NONE;
        }
        settle(matter);
        int best = NONE;
        int most = 0;
        for (int slot = 0; slot < MOST_WAYS * its.parts; slot++) {
            if (slot % MOST_WAYS < its.ways && its.holdOf(elder, slot) == 1) {
                int gain = gainByHidingOf(elder, matter, slot);
                if (gain > most) {
                    most = gain;
                    best = slot;
                }
            }
        }
        if (best == NONE) {
            return NONE;
        }
        if (what == 0) {
            return best / MOST_WAYS;
        }
        return what == 1 ? best % MOST_WAYS : most;
    }

    public int leans(int matter, int proposal) {
        Matter its = matterAt(matter);
        if (its == null || !its.hasProposal(proposal)) {
            return NONE;
        }
        settle(matter);
        int leaning = 0;
        for (int part = 0; part < its.parts; part++) {
            if (talks[matter].leansIn(part, its.wayIn(proposal, part))) {
                leaning++;
            }
        }
        return leaning;
    }

    public int minds(int elder, int matter) {
        Matter its = matterAt(matter);
        if (its == null || !circle.has(elder)) {
            return NONE;
        }
        settle(matter);
        pledges.weighBefore(matter, trial.gains);
        trial.watched = elder;
        trial.suspects = (1 << mindCount) - 1;
        trial.run(its);
        trial.watched = NONE;
        return trial.suspects;
    }

    public int count(int what) {
        switch (what) {
            case 0: return circle.size;
            case 1: return circle.sitting;
            case 2: return matterCount;
            case 3: return clashCount;
            case 4: return lawCount;
            case 5: return mindCount;
            case 6: return pledges.size;
            case 7: return gifts.size;
            case 8: return asides.size;
            case 9: return tape.size;
            default: return NONE;
        }
    }

    /** A way of a part as one number: four to a part, so that sets of them are bits. */
    private static int slot(int part, int way) {
        return part * MOST_WAYS + way;
    }

    private Matter matterAt(int matter) {
        return matter >= 0 && matter < matterCount ? matters[matter] : null;
    }

    /** Talks lean on talks of lower matters alone (by promises), so those below stay settled. */
    private void unsettleFrom(int matter) {
        settledCount = Math.min(settledCount, matter);
    }

    private void settle(int last) {
        for (int i = settledCount; i <= last && i < matterCount; i++) {
            Matter its = matterAt(i);
            if (its != null) {
                pledges.weighBefore(i, talks[i].gains);
                talks[i].run(its);
            }
            settledCount = i + 1;
        }
    }

    /** What those who heard together (bits) take one to hold; the talk comes behind all asides. */
    private int takenBy(int hearers, int elder, int matter, int part, int way) {
        int told = asides.lastHeard(hearers, elder, matter, slot(part, way));
        return talks[matter].lastSaid(elder, part, way, told);
    }

    private int gainByHidingOf(int elder, int matter, int slot) {
        Matter its = matterAt(matter);
        if (its == null || talks[matter].ending != Talk.RESTS) {
            return 0;
        }
        int now = its.lossOf(elder, its.slotsOf[talks[matter].ground]);
        if (now == 0) {
            return 0;
        }
        pledges.weighBefore(matter, trial.gains);
        its.setHold(elder, slot, 0);
        trial.run(its);
        its.setHold(elder, slot, 1);
        return trial.ending == Talk.RESTS ? now - its.lossOf(elder, its.slotsOf[trial.ground]) : 0;
    }

    /** Of two sets as bits: whether one has fewer, or the lower one where they first differ. */
    private static boolean comesFirst(int one, int other) {
        int more = Integer.bitCount(one) - Integer.bitCount(other);
        int differing = one ^ other;
        return more != 0 ? more < 0 : (one & differing & -differing) != 0;
    }

    /** The elders: who sits where, who heeds whom, who has which mind. */
    static final class Circle {
        final int[] ages = new int[MOST_ELDERS];
        final int[][] heeds = new int[MOST_ELDERS][MOST_ELDERS];
        final Text[] mindOf = new Text[MOST_ELDERS];
        final int[] seats = new int[MOST_ELDERS];
        int size;
        int sitting;
        int sitters;

        boolean has(int elder) {
            return elder >= 0 && elder < size;
        }

        boolean hasTwo(int one, int other) {
            return has(one) && has(other) && one != other;
        }

        boolean sits(int elder) {
            return (sitters >> elder & 1) != 0;
        }

        int add(int age) {
            ages[size] = age;
            size++;
            setSitting(size - 1, true);
            return size - 1;
        }

        void setSitting(int elder, boolean is) {
            sitters = is ? sitters | 1 << elder : sitters & ~(1 << elder);
            sitting = 0;
            for (int e = 0; e < size; e++) {
                if (sits(e)) {
                    seatNext(e);
                }
            }
        }

        private void seatNext(int elder) {
            int at = sitting;
            while (at > 0 && ages[seats[at - 1]] > ages[elder]) {
                seats[at] = seats[at - 1];
                at--;
            }
            seats[at] = elder;
            sitting++;
        }
    }

    /** A matter: its proposals as sets of slots, and what the elders hold of its ways. */
    static final class Matter {
        final int parts;
        final int ways;
        /** For each number the slots that the proposal has, 0 where the number is no proposal. */
        final int[] slotsOf;
        final int[] cannot = new int[MOST_ELDERS];
        final int[] would = new int[MOST_ELDERS];
        final int[][] cares = new int[MOST_ELDERS][MOST_PARTS];
        final int[] clashers = new int[MOST_CLASHES];
        final int[] clashing = new int[MOST_CLASHES];
        int clashes;
        int ground;
        Text law;

        Matter(int parts, int ways) {
            this.parts = parts;
            this.ways = ways;
            slotsOf = new int[1 << 2 * parts];
            for (int i = 0; i < slotsOf.length; i++) {
                slotsOf[i] = slotsIn(i, parts, ways);
            }
            for (int e = 0; e < MOST_ELDERS; e++) {
                Arrays.fill(cares[e], 1);
            }
        }

        private static int slotsIn(int number, int parts, int ways) {
            int slots = 0;
            for (int part = 0; part < parts; part++) {
                int way = number >> 2 * (parts - 1 - part) & 3;
                if (way >= ways) {
                    return 0;
                }
                slots |= 1 << slot(part, way);
            }
            return slots;
        }

        boolean hasWay(int part, int way) {
            return part >= 0 && part < parts && way >= 0 && way < ways;
        }

        boolean hasProposal(int number) {
            return number >= 0 && number < slotsOf.length && slotsOf[number] != 0;
        }

        int wayIn(int proposal, int part) {
            return proposal >> 2 * (parts - 1 - part) & 3;
        }

        int withWay(int proposal, int part, int way) {
            int shift = 2 * (parts - 1 - part);
            return proposal & ~(3 << shift) | way << shift;
        }

        int holdOf(int elder, int slot) {
            if ((cannot[elder] >> slot & 1) != 0) {
                return 0;
            }
            return (would[elder] >> slot & 1) != 0 ? 2 : 1;
        }

        void setHold(int elder, int slot, int v) {
            int bit = 1 << slot;
            cannot[elder] = v == 0 ? cannot[elder] | bit : cannot[elder] & ~bit;
            would[elder] = v == 2 ? would[elder] | bit : would[elder] & ~bit;
        }

        void addClash(int elder, int slot, int other) {
            if (clashes < MOST_CLASHES) {
                clashers[clashes] = elder;
                clashing[clashes] = 1 << slot | 1 << other;
                clashes++;
            }
        }

        /** Whether one cannot bear a way, or it clashes for it with other slots. */
        boolean isAgainst(int elder, int slot, int slots) {
            if ((cannot[elder] >> slot & 1) != 0) {
                return true;
            }
            for (int i = 0; i < clashes; i++) {
                boolean has = clashers[i] == elder && (clashing[i] >> slot & 1) != 0;
                if (has && (clashing[i] & ~slots) == 0) {
                    return true;
                }
            }
            return false;
        }

        /** The elders (bits) that have a clash within the slots. */
        int clashed(int slots) {
            int whose = 0;
            for (int i = 0; i < clashes; i++) {
                if ((clashing[i] & ~slots) == 0) {
                    whose |= 1 << clashers[i];
                }
            }
            return whose;
        }

        /** The elders (bits) that cannot bear the slots together. */
        int unable(int slots) {
            int who = clashed(slots);
            for (int e = 0; e < MOST_ELDERS; e++) {
                if ((cannot[e] & slots) != 0) {
                    who |= 1 << e;
                }
            }
            return who;
        }

        int lossOf(int elder, int slots) {
            int wishes = would[elder];
            int loss = 0;
            for (int part = 0; part < parts; part++) {
                int those = wishes & 15 << slot(part, 0);
                if (those != 0 && (those & slots) == 0) {
                    loss += cares[elder][part];
                }
            }
            return loss;
        }
    }

    /** The bytes that laws and minds are read from. */
    static final class Tape {
        private static final int FED = 20;
        /** Room for one feed too many, which is then taken back. */
        final int[] bytes = new int[MOST_BYTES + FED];
        int size;

        int add(int a, int b, int c, int d, int e) {
            int before = size;
            put(a);
            put(b);
            put(c);
            put(d);
            put(e);
            if (size > MOST_BYTES) {
                size = before;
                return NONE;
            }
            return size;
        }

        private void put(int number) {
            for (int shift = 24; shift >= 0; shift -= 8) {
                int one = number >> shift & 255;
                if (one != 0 && size < bytes.length) {
                    bytes[size] = one;
                    size++;
                }
            }
        }
    }

    /**
     * A law or mind that was read. In its code each sign stands behind what it joins:
     * the sign's byte, and above it the number, or the letter's place in the alphabet.
     */
    static final class Text {
        /** Of each clause: its label, where it begins in the code, where its sum begins, where it ends. */
        static final int CLAUSE = 4;
        final int[] code;
        final int[] clauses;

        Text(int[] code, int[] clauses) {
            this.code = code;
            this.clauses = clauses;
        }
    }

    /** Reads the tape as a law or a mind; where that fails, it stands at the first byte that cannot be. */
    static final class Reader {
        private static final int DEEPEST = 6;
        private static final int MOST_DIGITS = 4;
        /** The shortest clause with the ; behind it has four bytes. */
        private static final int MOST_CLAUSES = MOST_BYTES / 4 + 1;
        private final Tape tape;
        private final int[] code = new int[MOST_BYTES];
        private final int[] clauses = new int[MOST_CLAUSES * Text.CLAUSE];
        private String labels = "";
        private String letters = "";
        private int at;
        private int codeSize;
        private int clausesSize;

        Reader(Tape tape) {
            this.tape = tape;
        }

        int faultAs(int sort) {
            labels = sort == LAW ? "sld" : "nc";
            letters = sort == LAW ? "aktfm" : "heotkaqwgf";
            at = 0;
            codeSize = 0;
            clausesSize = 0;
            boolean fine = readClause();
            for (int i = 0; fine && i < MOST_BYTES && next() == ';'; i++) {
                at++;
                fine = readClause();
            }
            return fine && next() == 0 ? NONE : at;
        }

        /** What was read last, which must have had no fault. */
        Text readText() {
            return new Text(Arrays.copyOf(code, codeSize), Arrays.copyOf(clauses, clausesSize));
        }

        /** The byte that comes behind blanks; 0 (which is never on the tape) at the end. */
        private int next() {
            while (at < tape.size && tape.bytes[at] == ' ') {
                at++;
            }
            return at < tape.size ? tape.bytes[at] : 0;
        }

        private static boolean isIn(String signs, int sign) {
            return sign != 0 && signs.indexOf((char) sign) >= 0;
        }

        private void put(int sign, int value) {
            if (codeSize < code.length) {
                code[codeSize] = sign | value << 8;
                codeSize++;
            }
        }

        private void putClause(int label, int begin, int sum) {
            if (clausesSize + Text.CLAUSE <= clauses.length) {
                clauses[clausesSize] = label;
                clauses[clausesSize + 1] = begin;
                clauses[clausesSize + 2] = sum;
                clauses[clausesSize + 3] = codeSize;
                clausesSize += Text.CLAUSE;
            }
        }

        private boolean readClause() {
            int label = next();
            if (!isIn(labels, label)) {
                return false;
            }
            at++;
            if (next() != ':') {
                return false;
            }
            at++;
            int begin = codeSize;
            boolean fine;
            if (isIn("!(", next())) {
                fine = readCondition(0);
            } else {
                fine = readSum(0);
                if (fine && !isIn("=<>", next())) {
                    putClause(label, begin, begin);
                    return true;
                }
                fine = fine && readRelation(0) && readMoreUnits(0) && readMoreTruths(0);
            }
            if (!fine || next() != '?') {
                return false;
            }
            at++;
            int sum = codeSize;
            fine = readSum(0);
            putClause(label, begin, sum);
            return fine;
        }

        private boolean readCondition(int depth) {
            return readTruth(depth) && readMoreTruths(depth);
        }

        private boolean readMoreTruths(int depth) {
            boolean fine = true;
            for (int i = 0; fine && i < MOST_BYTES && next() == '|'; i++) {
                at++;
                fine = readTruth(depth);
                put('|', 0);
            }
            return fine;
        }

        private boolean readTruth(int depth) {
            return readUnit(depth) && readMoreUnits(depth);
        }

        private boolean readMoreUnits(int depth) {
            boolean fine = true;
            for (int i = 0; fine && i < MOST_BYTES && next() == '&'; i++) {
                at++;
                fine = readUnit(depth);
                put('&', 0);
            }
            return fine;
        }

        private boolean readUnit(int depth) {
            int sign = next();
            if (!isIn("!(", sign)) {
                return readSum(depth) && readRelation(depth);
            }
            if (depth >= DEEPEST) {
                return false;
            }
            at++;
            if (sign == '!') {
                boolean fine = readUnit(depth + 1);
                put('!', 0);
                return fine;
            }
            if (!readCondition(depth + 1) || next() != ')') {
                return false;
            }
            at++;
            return true;
        }

        /** The second half of a relation, whose first sum has been read. */
        private boolean readRelation(int depth) {
            int sign = next();
            if (!isIn("=<>", sign)) {
                return false;
            }
            at++;
            boolean fine = readSum(depth);
            put(sign, 0);
            return fine;
        }

        private boolean readSum(int depth) {
            boolean fine = readTerm(depth);
            for (int i = 0; fine && i < MOST_BYTES && isIn("+-", next()); i++) {
                int sign = next();
                at++;
                fine = readTerm(depth);
                put(sign, 0);
            }
            return fine;
        }

        private boolean readTerm(int depth) {
            boolean fine = readAtom(depth);
            for (int i = 0; fine && i < MOST_BYTES && isIn("*/", next()); i++) {
                int sign = next();
                at++;
                fine = readAtom(depth);
                put(sign, 0);
            }
            return fine;
        }

        private boolean readAtom(int depth) {
            int sign = next();
            if (sign >= '0' && sign <= '9') {
                put('0', readNumber(sign));
                return true;
            }
            if (isIn(letters, sign)) {
                at++;
                put('a', sign - 'a');
                return true;
            }
            if (sign != '[' || depth >= DEEPEST) {
                return false;
            }
            at++;
            if (!readSum(depth + 1) || next() != ']') {
                return false;
            }
            at++;
            return true;
        }

        /** A fifth digit is left where it is: nothing that may follow a number begins with one. */
        private int readNumber(int first) {
            int value = 0;
            int sign = first;
            for (int i = 0; i < MOST_DIGITS && sign >= '0' && sign <= '9'; i++) {
                value = value * 10 + sign - '0';
                at++;
                sign = at < tape.size ? tape.bytes[at] : 0;
            }
            return value;
        }
    }

    /** Weighs the labels of texts, by letters that are told first. */
    static final class Scale {
        /** Beyond every int, so that no worth is like it. */
        static final long NO_WORTH = 1L << 40;
        private static final int GREATEST = 1_000_000;
        private final int[] letters = new int[26];
        private final int[] stack = new int[MOST_BYTES];

        void clear() {
            Arrays.fill(letters, 0);
        }

        void tell(char letter, int value) {
            if (letter >= 'a' && letter <= 'z') {
                letters[letter - 'a'] = value;
            }
        }

        /** The sum of the first clause of the label whose condition holds or that has none. */
        long weigh(Text text, int label) {
            if (text == null) {
                return NO_WORTH;
            }
            int[] clauses = text.clauses;
            for (int c = 0; c + Text.CLAUSE <= clauses.length; c += Text.CLAUSE) {
                boolean holds = clauses[c] == label;
                int top = 0;
                for (int i = clauses[c + 1]; holds && i < clauses[c + 3]; i++) {
                    if (i == clauses[c + 2] && top > 0) {
                        // the condition lies before the sum, and its truth on the stack
                        holds = stack[0] != 0;
                        top = 0;
                    }
                    top = step(text.code[i], top);
                }
                if (holds) {
                    return stack[0];
                }
            }
            return NO_WORTH;
        }

        /** Goes one step on in a code; answers how much is on the stack then. Truths are 1 and 0. */
        private int step(int token, int top) {
            int sign = token & 255;
            if ((sign == '0' || sign == 'a') && top < stack.length) {
                stack[top] = sign == '0' ? token >> 8 : letters[token >> 8];
                return top + 1;
            }
            if (sign == '!' && top >= 1) {
                stack[top - 1] = 1 - stack[top - 1];
                return top;
            }
            if (top < 2) {
                return top;
            }
            long one = stack[top - 2];
            long other = stack[top - 1];
            long value;
            switch (sign) {
                case '+': value = one + other; break;
                case '-': value = one - other; break;
                case '*': value = one * other; break;
                case '/': value = other == 0 ? 0 : one / other; break;
                case '=': value = one == other ? 1 : 0; break;
                case '<': value = one < other ? 1 : 0; break;
                case '>': value = one > other ? 1 : 0; break;
                case '&': value = one & other; break;
                default: value = one | other; break;
            }
            if (value > GREATEST) {
                value = GREATEST;
            }
            stack[top - 2] = value < -GREATEST ? -GREATEST : (int) value;
            return top - 1;
        }
    }

    /** A talk of a matter, gone through day by day, and what came of it. */
    static final class Talk {
        static final int RESTS = 0;
        static final int OVER = 1;
        static final int ROUND = 2;
        static final int SILENT = 3;
        /** Of each word: who spoke, the day, the part, the way it said no to, the way it said for. */
        static final int WORD = 5;
        private static final int LAST_DAY = 30;
        private final Circle circle;
        private final Text[] minds;
        private final Scale scale;
        private Matter matter;
        final int[] gains = new int[MOST_ELDERS];
        final int[] words = new int[LAST_DAY * MOST_ELDERS * WORD];
        private final int[] spokenBy = new int[MOST_ELDERS];
        private final int[] saidFor = new int[MOST_ELDERS];
        private final int[] saidNo = new int[MOST_ELDERS];
        private final int[] groundAfter = new int[LAST_DAY + 1];
        private final int[] newestAfter = new int[LAST_DAY + 1];
        int ending;
        int day;
        int ground;
        int spoken;
        private int spokenToday;
        private int newest;
        /** The elder whose looks are compared with what minds would say, and the minds that agree so far. */
        int watched = NONE;
        int suspects;

        Talk(Circle circle, Text[] minds, Scale scale) {
            this.circle = circle;
            this.minds = minds;
            this.scale = scale;
        }

        void run(Matter about) {
            matter = about;
            ground = about.ground;
            spoken = 0;
            newest = 0;
            Arrays.fill(spokenBy, 0);
            Arrays.fill(saidFor, 0);
            Arrays.fill(saidNo, 0);
            int last = lastDay();
            ending = NONE;
            for (int d = 1; d <= LAST_DAY && ending == NONE; d++) {
                day = d;
                spokenToday = 0;
                for (int at = 0; at < circle.sitting; at++) {
                    takeTurn(circle.seats[at], at);
                }
                ending = endOfDay(last);
            }
        }

        private int lastDay() {
            scale.clear();
            scale.tell('m', circle.sitting);
            long told = scale.weigh(matter.law, 'd');
            if (told == Scale.NO_WORTH || told > LAST_DAY) {
                return LAST_DAY;
            }
            return told < 1 ? 1 : (int) told;
        }

        private int endOfDay(int last) {
            if (spokenToday == 0) {
                return failsBySilence() ? SILENT : RESTS;
            }
            if (day >= last) {
                return OVER;
            }
            if (wasSoBefore()) {
                return ROUND;
            }
            groundAfter[day] = ground;
            newestAfter[day] = newest;
            return NONE;
        }

        private boolean failsBySilence() {
            scale.clear();
            scale.tell('t', day);
            scale.tell('m', circle.sitting);
            return scale.weigh(matter.law, 'l') == 0
                && (matter.unable(matter.slotsOf[ground]) & circle.sitters) != 0;
        }

        /** What has been said never shrinks, so it is as it was if nothing new was said since. */
        private boolean wasSoBefore() {
            for (int d = 1; d < day; d++) {
                if (groundAfter[d] == ground && newestAfter[d] == newest) {
                    return true;
                }
            }
            return false;
        }

        private void takeTurn(int elder, int ahead) {
            if (!maySpeak(elder, ahead)) {
                return;
            }
            for (int part = 0; part < matter.parts; part++) {
                tellLook(elder, ahead, part);
                boolean no = isNo(scale.weigh(circle.mindOf[elder], 'n'), elder, part);
                if (elder == watched) {
                    sift(elder, part, no);
                }
                if (no) {
                    speak(elder, part, wayInstead(elder, part));
                    return;
                }
            }
        }

        private boolean maySpeak(int elder, int ahead) {
            scale.clear();
            scale.tell('a', ahead);
            scale.tell('k', spokenBy[elder]);
            scale.tell('t', day);
            scale.tell('f', spokenToday);
            scale.tell('m', circle.sitting);
            long worth = scale.weigh(matter.law, 's');
            return worth == Scale.NO_WORTH ? spokenBy[elder] < 3 : worth != 0;
        }

        private void tellLook(int elder, int ahead, int part) {
            int way = matter.wayIn(ground, part);
            int slot = slot(part, way);
            scale.clear();
            scale.tell('h', matter.holdOf(elder, slot));
            scale.tell('e', heedFor(elder, saidFor, slot));
            scale.tell('o', heedFor(elder, saidNo, slot));
            scale.tell('t', day);
            scale.tell('k', spokenBy[elder]);
            scale.tell('a', ahead);
            scale.tell('f', spokenToday);
            scale.tell('q', part);
            scale.tell('w', way);
            scale.tell('g', gains[elder]);
        }

        private int heedFor(int elder, int[] said, int slot) {
            int sum = 0;
            for (int other = 0; other < MOST_ELDERS; other++) {
                if ((said[other] >> slot & 1) != 0) {
                    sum += circle.heeds[elder][other];
                }
            }
            return sum;
        }

        /** Whether one says no whose mind's worth of n is this. */
        private boolean isNo(long worth, int elder, int part) {
            if (worth != Scale.NO_WORTH) {
                return worth != 0;
            }
            return matter.isAgainst(elder, slot(part, matter.wayIn(ground, part)), matter.slotsOf[ground]);
        }

        private void sift(int elder, int part, boolean no) {
            for (int i = 0; i < MOST_TEXTS; i++) {
                if ((suspects >> i & 1) != 0 && isNo(scale.weigh(minds[i], 'n'), elder, part) != no) {
                    suspects &= ~(1 << i);
                }
            }
        }

        private void speak(int elder, int part, int instead) {
            int way = matter.wayIn(ground, part);
            int at = spoken * WORD;
            if (at + WORD <= words.length) {
                words[at] = elder;
                words[at + 1] = day;
                words[at + 2] = part;
                words[at + 3] = way;
                words[at + 4] = instead;
                spoken++;
            }
            noteSaid(saidNo, elder, slot(part, way));
            noteSaid(saidFor, elder, slot(part, instead));
            ground = matter.withWay(ground, part, instead);
            spokenBy[elder]++;
            spokenToday++;
        }

        private void noteSaid(int[] said, int elder, int slot) {
            if ((said[elder] >> slot & 1) == 0) {
                said[elder] |= 1 << slot;
                newest = spoken;
            }
        }

        /** The letters are still those of the look that led to the no. */
        private int wayInstead(int elder, int part) {
            int way = matter.wayIn(ground, part);
            long told = scale.weigh(circle.mindOf[elder], 'c');
            if (told >= 0 && told < matter.ways && told != way) {
                return (int) told;
            }
            int best = NONE;
            int most = NONE;
            for (int w = 0; w < matter.ways; w++) {
                int hold = matter.holdOf(elder, slot(part, w));
                if (w != way && hold > most) {
                    most = hold;
                    best = w;
                }
            }
            return best;
        }

        boolean restsWith(int slot) {
            return ending == RESTS && matter != null && (matter.slotsOf[ground] >> slot & 1) != 0;
        }

        /** The hold that one's last word on a way tells, or else what was taken before the talk. */
        int lastSaid(int elder, int part, int way, int before) {
            int hold = before;
            for (int i = 0; i < spoken; i++) {
                int at = i * WORD;
                if (words[at] == elder && words[at + 2] == part) {
                    if (words[at + 3] == way) {
                        hold = 0;
                    } else if (words[at + 4] == way) {
                        hold = 2;
                    }
                }
            }
            return hold;
        }

        int nosWithoutNeed(int elder) {
            int nos = 0;
            int then = matter == null ? 0 : matter.ground;
            for (int i = 0; matter != null && i < spoken; i++) {
                int at = i * WORD;
                int no = slot(words[at + 2], words[at + 3]);
                if (words[at] == elder && !matter.isAgainst(elder, no, matter.slotsOf[then])) {
                    nos++;
                }
                then = matter.withWay(then, words[at + 2], words[at + 4]);
            }
            return nos;
        }

        /** Whether more elders said for another way of the part than for this one. */
        boolean leansIn(int part, int way) {
            int most = 0;
            for (int w = 0; w < MOST_WAYS; w++) {
                most = Math.max(most, voicesFor(slot(part, w)));
            }
            return voicesFor(slot(part, way)) < most;
        }

        private int voicesFor(int slot) {
            int voices = 0;
            for (int e = 0; e < MOST_ELDERS; e++) {
                voices += saidFor[e] >> slot & 1;
            }
            return voices;
        }
    }

    /** Promises, and whether the talks have kept them. */
    static final class Pledges {
        private final Talk[] talks;
        private final int[] by = new int[MOST_PROMISES];
        private final int[] to = new int[MOST_PROMISES];
        private final int[] in = new int[MOST_PROMISES];
        private final int[] slots = new int[MOST_PROMISES];
        int size;

        Pledges(Talk[] talks) {
            this.talks = talks;
        }

        void add(int elder, int other, int matter, int slot) {
            by[size] = elder;
            to[size] = other;
            in[size] = matter;
            slots[size] = slot;
            size++;
        }

        int countOf(int elder, boolean kept) {
            int some = 0;
            for (int i = 0; i < size; i++) {
                if (by[i] == elder && talks[in[i]].restsWith(slots[i]) == kept) {
                    some++;
                }
            }
            return some;
        }

        /** Puts for each elder what promises to it in lower matters came to: kept ones less broken ones. */
        void weighBefore(int matter, int[] gains) {
            Arrays.fill(gains, 0);
            for (int i = 0; i < size; i++) {
                if (in[i] < matter) {
                    gains[to[i]] += talks[in[i]].restsWith(slots[i]) ? 1 : -1;
                }
            }
        }
    }

    /** What those who sit could agree on. */
    static final class Council {
        /** All ways but the first of each part. */
        private static final int BUT_FIRST_WAYS = 0xEEEEE;
        private final Circle circle;
        private final int[] losses = new int[MOST_ELDERS];

        Council(Circle circle) {
            this.circle = circle;
        }

        /** The i-th proposal that all who sit can bear; how many there are, if i is NONE. */
        int borneByAll(Matter matter, int i) {
            int some = 0;
            for (int p = 0; p < matter.slotsOf.length; p++) {
                if (isBorneByAll(matter, matter.slotsOf[p])) {
                    if (some == i) {
                        return p;
                    }
                    some++;
                }
            }
            return i == NONE ? some : NONE;
        }

        private boolean isBorneByAll(Matter matter, int slots) {
            return slots != 0 && (matter.unable(slots) & circle.sitters) == 0;
        }

        int fairest(Matter matter) {
            int best = NONE;
            long least = 0;
            for (int p = 0; p < matter.slotsOf.length; p++) {
                if (isBorneByAll(matter, matter.slotsOf[p])) {
                    long key = lossesFalling(matter, matter.slotsOf[p]);
                    if (best == NONE || key < least) {
                        best = p;
                        least = key;
                    }
                }
            }
            return best;
        }

        /** The losses of those who sit, the greatest first, as the digits of one number: none is above 45. */
        private long lossesFalling(Matter matter, int slots) {
            for (int i = 0; i < circle.sitting; i++) {
                int loss = matter.lossOf(circle.seats[i], slots);
                int at = i;
                while (at > 0 && losses[at - 1] < loss) {
                    losses[at] = losses[at - 1];
                    at--;
                }
                losses[at] = loss;
            }
            long key = 0;
            for (int i = 0; i < circle.sitting; i++) {
                key = key << 6 | losses[i];
            }
            return key;
        }

        /** The fewest without whom a proposal could be borne are always those that cannot bear one. */
        int barring(Matter matter) {
            int best = NONE;
            for (int p = 0; p < matter.slotsOf.length; p++) {
                if (matter.slotsOf[p] != 0) {
                    int bound = matter.unable(matter.slotsOf[p]) & circle.sitters;
                    if (best == NONE || comesFirst(bound, best)) {
                        best = bound;
                    }
                }
            }
            return best == 0 ? NONE : best;
        }

        int fewestOpen(Matter matter) {
            int best = NONE;
            for (int set = 0; set < 1 << matter.parts; set++) {
                if ((best == NONE || comesFirst(set, best)) && canLeaveOpen(matter, set)) {
                    best = set;
                }
            }
            return best;
        }

        private boolean canLeaveOpen(Matter matter, int set) {
            int open = 0;
            for (int part = 0; part < matter.parts; part++) {
                open |= (set >> part & 1) * (15 << slot(part, 0));
            }
            for (int p = 0; p < matter.slotsOf.length; p++) {
                int slots = matter.slotsOf[p];
                // what an open part has is all one, so its first way stands for all
                boolean counts = slots != 0 && (slots & open & BUT_FIRST_WAYS) == 0;
                if (counts && (matter.unable(slots & ~open) & circle.sitters) == 0) {
                    return true;
                }
            }
            return false;
        }

        int mostHands(Matter matter) {
            int best = 0;
            int most = NONE;
            int least = 0;
            for (int p = 0; p < matter.slotsOf.length; p++) {
                int slots = matter.slotsOf[p];
                int up = slots == 0 ? NONE
                    : circle.sitting - Integer.bitCount(matter.unable(slots) & circle.sitters);
                if (slots != 0 && up >= most) {
                    int sum = lossOfAll(matter, slots);
                    if (up > most || sum < least) {
                        best = p;
                        most = up;
                        least = sum;
                    }
                }
            }
            return best;
        }

        private int lossOfAll(Matter matter, int slots) {
            int sum = 0;
            for (int i = 0; i < circle.sitting; i++) {
                sum += matter.lossOf(circle.seats[i], slots);
            }
            return sum;
        }
    }

    /** Gifts in other matters, and which of them make a trade. */
    static final class Gifts {
        private final Circle circle;
        private final int[] whose = new int[MOST_GIFTS];
        private final int[] in = new int[MOST_GIFTS];
        private final int[] slots = new int[MOST_GIFTS];
        private final int[] from = new int[MOST_GIFTS];
        private final int[] had = new int[MOST_GIFTS];
        private final int[] firstSets = new int[1 << 2 * MOST_PARTS];
        private final int[] secondSets = new int[1 << 2 * MOST_PARTS];
        private int firstCount;
        private int secondCount;
        int size;

        Gifts(Circle circle) {
            this.circle = circle;
        }

        int add(int elder, int matter, int slot, int other, int had) {
            whose[size] = elder;
            in[size] = matter;
            slots[size] = slot;
            from[size] = other;
            this.had[size] = had;
            size++;
            return size - 1;
        }

        /** The gifts (bits) from one matter to another of elders who sit. */
        int between(int matter, int other) {
            int those = 0;
            for (int i = 0; i < size; i++) {
                if (in[i] == matter && from[i] == other && circle.sits(whose[i])) {
                    those |= 1 << i;
                }
            }
            return those;
        }

        int fewestFor(Matter first, Matter second, int those) {
            gather(first, second);
            int best = NONE;
            for (int set = 0; set < 1 << size; set++) {
                boolean counts = (set & ~those) == 0 && (best == NONE || comesFirst(set, best));
                if (counts && isGiven(set) && isEnough(first, set)) {
                    best = set;
                }
            }
            return best;
        }

        /** Of the first the proposals without a clash, of the second those that all can bear. */
        private void gather(Matter first, Matter second) {
            firstCount = 0;
            for (int p = 0; p < first.slotsOf.length; p++) {
                int slots = first.slotsOf[p];
                if (slots != 0 && (first.clashed(slots) & circle.sitters) == 0) {
                    firstSets[firstCount] = slots;
                    firstCount++;
                }
            }
            secondCount = 0;
            for (int p = 0; p < second.slotsOf.length; p++) {
                int slots = second.slotsOf[p];
                if (slots != 0 && (second.unable(slots) & circle.sitters) == 0) {
                    secondSets[secondCount] = slots;
                    secondCount++;
                }
            }
        }

        private boolean isGiven(int set) {
            int asked = 0;
            for (int i = 0; i < size; i++) {
                asked |= (set >> i & 1) << had[i];
            }
            for (int i = 0; i < secondCount; i++) {
                if ((asked & ~secondSets[i]) == 0) {
                    return true;
                }
            }
            return false;
        }

        private boolean isEnough(Matter first, int set) {
            int unborne = 0;
            for (int at = 0; at < circle.sitting; at++) {
                unborne |= unborneBy(circle.seats[at], first, set);
            }
            for (int i = 0; i < firstCount; i++) {
                if ((firstSets[i] & unborne) == 0) {
                    return true;
                }
            }
            return false;
        }

        private int unborneBy(int elder, Matter first, int set) {
            int unborne = first.cannot[elder];
            for (int i = 0; i < size; i++) {
                if (whose[i] == elder && (set >> i & 1) != 0) {
                    unborne &= ~(1 << slots[i]);
                }
            }
            return unborne;
        }
    }

    /** What elders told some others. */
    static final class Asides {
        private final int[] tellers = new int[MOST_ASIDES];
        private final int[] hearers = new int[MOST_ASIDES];
        private final int[] in = new int[MOST_ASIDES];
        private final int[] slots = new int[MOST_ASIDES];
        private final int[] holds = new int[MOST_ASIDES];
        int size;

        void add(int elder, int some, int matter, int slot, boolean can) {
            tellers[size] = elder;
            hearers[size] = some;
            in[size] = matter;
            slots[size] = slot;
            holds[size] = can ? 1 : 0;
            size++;
        }

        /** What one told last of a way to these (bits) together; 1 if it told them nothing. */
        int lastHeard(int these, int elder, int matter, int slot) {
            int hold = 1;
            for (int i = 0; i < size; i++) {
                boolean isOfIt = tellers[i] == elder && in[i] == matter && slots[i] == slot;
                if (isOfIt && (these & ~hearers[i]) == 0) {
                    hold = holds[i];
                }
            }
            return hold;
        }
    }
}
