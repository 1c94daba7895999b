/**
 * Arm against arm, as ../shared/DOC.md tells it: the words in capitals here are that document's.
 *
 * Every row is made by the constructor and used again by each call, so that a long run of calls needs no more room
 * than its first one.
 */
public final class ArmAgainstArm {
    public static final int NONE = -1, BAD = -2, STATE = -3, FULL = -4;
    public static final long NO = -4611686018427387904L;

    private static final int MOST_ARMS = 6;
    private static final int MOST_TEXTS = 6;
    private static final int MOST_BYTES = 160;
    private static final int MOST_SHEETS = 4;
    private static final int MOST_NUMBERS = 40;
    private static final int MOST_TOLD_ANGLES = 8;
    private static final int MOST_HOLD = 24;
    private static final int MOST_SEED = 99999;
    private static final int TENTHS = 40;
    private static final int PARTS = 4;
    private static final int PART_TENTHS = TENTHS / PARTS;
    private static final int DOWN = 30;
    private static final int FIRST_PLAN = 1111;

    // Calls of which NONE and BAD could be mistaken for an answer refuse by numbers of their own.
    private static final int NO_ARM = -5, NOT_SO = -7;
    private static final int NO_TWO = -100, NOT_SO_FAR = -200;
    private static final int FAULT_AT_0 = -100;
    private static final int NOTHING_THERE = -11, OUTSIDE = -12, UNLIKE = -13, BELOW_0 = -14;

    private static final int ARM = 0, STRONG = 1, QUICK = 2, TOP = 3, HOOK = 4, HEAVY = 5, HOLD = 6;
    private static final int[] KIND_ABOVE = {NONE, ARM, ARM, STRONG, QUICK, ARM};

    private static final int FORCE = 0, SPENDS = 1, HURTS = 2;
    private static final String FIRST_LAW = "force told + hard * 6 + hold ; spends hard ; hurts 0 - angle ;";

    private static final int MISSING = -1, BYTES = 0, SHORTS = 1, INTS = 2;

    private final Arm[] arms = new Arm[MOST_ARMS];
    private int armCount;
    private final Text[] texts = new Text[MOST_TEXTS];
    private int textCount;
    private int lawNumber;
    private final Tape tape = new Tape();
    private final Reader reader;
    private final Bout bout;
    private final Seeker seeker;
    private final Sheet[] sheets = new Sheet[MOST_SHEETS];
    private final Image kept = new Image();

    public ArmAgainstArm() {
        for (int i = 0; i < MOST_ARMS; i++) arms[i] = new Arm();
        for (int i = 0; i < MOST_SHEETS; i++) sheets[i] = new Sheet();
        int[] stack = new int[MOST_BYTES];
        for (int i = 0; i < MOST_TEXTS; i++) texts[i] = new Text(stack);
        for (int i = 0; i < FIRST_LAW.length(); i++) tape.add(FIRST_LAW.charAt(i));
        reader = new Reader(tape, texts[0]);
        reader.read();
        tape.empty();
        textCount = 1;
        bout = new Bout(arms[0], arms[1], texts[0]);
        seeker = new Seeker(bout);
    }

    // ---- the law

    public int count(int what) {
        switch (what) {
            case 0: return armCount;
            case 1: return textCount;
            case 2: return lawNumber;
            case 3: return tape.size;
            default: return BAD;
        }
    }

    public int feed(int n, int a, int b, int c, int d, int e) {
        if (!isWithin(n, 1, 5)) return BAD;
        if (!isByte(a) || !isByte(b) || !isByte(c) || !isByte(d) || !isByte(e)) return BAD;
        if (n > MOST_BYTES - tape.size) return FULL;
        tape.add(a);
        if (n > 1) tape.add(b);
        if (n > 2) tape.add(c);
        if (n > 3) tape.add(d);
        if (n > 4) tape.add(e);
        return tape.size;
    }

    public int text() {
        if (textCount >= MOST_TEXTS) return FULL;
        reader.made = texts[textCount];
        int fault = reader.read();
        tape.empty();
        if (fault != NONE) return FAULT_AT_0 - fault;
        textCount++;
        return textCount - 1;
    }

    public int force(int t) {
        if (!isWithin(t, 0, textCount - 1)) return BAD;
        int was = lawNumber;
        lawNumber = t;
        return was;
    }

    public int asks(int part, int a, int holdHard, int angle, int tenth) {
        if (!isArm(a)) return NO_ARM;
        if (!isWithin(part, FORCE, HURTS)) return NOT_SO;
        if (!isWithin(holdHard, 0, 10 * MOST_HOLD + 3) || holdHard % 10 > 3) return NOT_SO;
        if (!isWithin(angle, -DOWN, DOWN) || !isWithin(tenth, 0, TENTHS)) return NOT_SO;
        Side side = bout.a;
        side.begin(arms[a]);
        side.hold = holdHard / 10;
        side.looks(holdHard % 10, angle, tenth);
        return texts[lawNumber].says(part, side.names);
    }

    // ---- arms

    public int arm(int kind, int told, int more) {
        return armComes(kind, told, more);
    }

    public int set(int a, int what, int v) {
        if (!isArm(a)) return NO_ARM;
        Arm arm = arms[a];
        if (what == 0 && isWithin(v, 0, MOST_HOLD)) {
            int was = arm.hold;
            arm.hold = v;
            return was;
        }
        if (what == 1 && isPlan(v)) {
            int was = arm.plan;
            arm.plan = v;
            return was;
        }
        return NOT_SO;
    }

    public int told(int a, int what) {
        if (!isArm(a)) return NO_ARM;
        Arm arm = arms[a];
        switch (what) {
            case 0: return arm.hold;
            case 1: return arm.plan;
            case 2: return arm.kind;
            case 3: return arm.told;
            case 4: return arm.more;
            case 5: return arm.late;
            default: return NOT_SO;
        }
    }

    // ---- bouts

    public int match(int ab, int n, int what) {
        if (!tellsTwo(ab)) return NO_TWO;
        if (!isWithin(n, 0, TENTHS) || !isWithin(what, 0, 3)) return NOT_SO_FAR;
        open(ab / 10, ab % 10);
        bout.watched = what == 3;
        bout.playTo(n);
        switch (what) {
            case 0: return bout.angle;
            case 1: return bout.a.hold;
            case 2: return bout.b.hold;
            default: return bout.hurt;
        }
    }

    public int wins(int a, int b, int what) {
        if (!areTwo(a, b)) return NO_ARM;
        if (!isWithin(what, 0, 1)) return NOT_SO;
        open(a, b);
        bout.playTo(TENTHS);
        if (what == 0) return winner(a, b);
        return bout.isOver() ? bout.tenth : NONE;
    }

    public int fight(int a, int b) {
        if (!areTwo(a, b)) return NO_TWO;
        open(a, b);
        bout.playTo(TENTHS);
        arms[a].hold = bout.a.hold;
        arms[b].hold = bout.b.hold;
        return bout.angle;
    }

    public int rest(int n) {
        if (!isWithin(n, 0, MOST_HOLD)) return BAD;
        int together = 0;
        for (int i = 0; i < armCount; i++) {
            arms[i].hold = Math.min(MOST_HOLD, arms[i].hold + n);
            together += arms[i].hold;
        }
        return together;
    }

    // ---- how hard

    public int best(int a, int b, int what) {
        if (!areTwo(a, b)) return NO_TWO;
        if (!isWithin(what, 0, 2)) return NOT_SO_FAR;
        open(a, b);
        seeker.seek();
        if (what == 0) return seeker.plan;
        return what == 1 ? seeker.angle : seeker.hold;
    }

    public int even(int a, int b) {
        if (!areTwo(a, b)) return NO_ARM;
        open(a, b);
        seeker.seek();
        if (seeker.angle > seeker.ownAngle) return 0;
        open(b, a);
        seeker.seek();
        return seeker.angle > seeker.ownAngle ? 0 : 1;
    }

    public int line(int a, int b) {
        if (!areTwo(a, b)) return NO_TWO;
        for (int angle = 1 - DOWN; angle < DOWN; angle++) {
            open(a, b);
            bout.angle = angle;
            bout.playTo(TENTHS);
            if (bout.angle > 0) return angle;
        }
        return DOWN;
    }

    public int needs(int a, int b) {
        if (!areTwo(a, b)) return NO_ARM;
        for (int hold = 0; hold <= MOST_HOLD; hold++) {
            if (wouldWin(a, b, hold)) return hold;
        }
        return NONE;
    }

    // ---- rows, rings

    public int row(int a, int set, int what) {
        if (!isArm(a)) return NO_ARM;
        if (!isWithin(set, 0, (1 << armCount) - 1) || has(set, a) || Integer.bitCount(set) > 4) return NOT_SO;
        if (!isWithin(what, 0, 1)) return NOT_SO;
        int order = longestOrder(a, set, arms[a].hold, 0, 4);
        return what == 0 ? digits(order) : order;
    }

    public int beats(int a) {
        if (!isArm(a)) return NO_ARM;
        return beaten(a);
    }

    public int rings(int what) {
        if (!isWithin(what, 0, 1)) return BAD;
        int found = 0, first = NONE;
        for (int i = 0; i < armCount; i++) {
            int byI = beaten(i);
            for (int j = i + 1; j < armCount; j++) {
                int byJ = has(byI, j) ? beaten(j) : 0;
                for (int k = i + 1; k < armCount; k++) {
                    if (!has(byJ, k) || !has(beaten(k), i)) continue;
                    if (found == 0) first = 100 * (i + 1) + 10 * (j + 1) + k + 1;
                    found++;
                }
            }
        }
        return what == 0 ? found : first;
    }

    // ---- told bouts

    public int judge(int s, int a, int b) {
        int refused = refusalOfTold(s);
        if (refused != 0) return refused;
        if (!areTwo(a, b)) return NO_ARM;
        open(a, b);
        return firstOtherwise(sheets[s]);
    }

    public int left(int s, int a, int b) {
        int refused = refusalOfTold(s);
        if (refused != 0) return refused;
        if (!areTwo(a, b)) return NO_ARM;
        int bits = 0;
        for (int hold = 0; hold <= MOST_HOLD; hold++) {
            open(a, b);
            bout.b.hold = hold;
            if (firstOtherwise(sheets[s]) == NONE) bits |= 1 << hold;
        }
        return bits;
    }

    public int whom(int s, int a) {
        int refused = refusalOfTold(s);
        if (refused != 0) return refused;
        if (!isArm(a)) return NO_ARM;
        int bits = 0;
        for (int b = 0; b < armCount; b++) {
            if (b == a) continue;
            open(a, b);
            if (firstOtherwise(sheets[s]) == NONE) bits |= 1 << b;
        }
        return bits;
    }

    public int laws(int s, int a, int b) {
        int refused = refusalOfTold(s);
        if (refused != 0) return refused;
        if (!areTwo(a, b)) return NO_ARM;
        int bits = 0;
        for (int t = 0; t < textCount; t++) {
            open(a, b);
            bout.law = texts[t];
            if (firstOtherwise(sheets[s]) == NONE) bits |= 1 << t;
        }
        return bits;
    }

    public int film(int s, int ab, int n) {
        if (!isSheet(s)) return BAD;
        if (!tellsTwo(ab)) return NO_ARM;
        if (!isWithin(n, 0, MOST_TOLD_ANGLES)) return NOT_SO;
        open(ab / 10, ab % 10);
        sheets[s].become(INTS, n);
        for (int i = 0; i < n; i++) {
            bout.playTo(5 * (i + 1));
            sheets[s].put(i, bout.angle);
        }
        return n;
    }

    // ---- starts by lot

    public int drawn(int seed, int a, int b) {
        if (!areTwo(a, b)) return NO_ARM;
        if (!isWithin(seed, 0, MOST_SEED)) return NOT_SO;
        return winnerDrawn(seed, a, b);
    }

    public long odds(int seed, int seeds, int ab, int part) {
        if (!isWithin(seed, 0, MOST_SEED) || !isWithin(seeds, 1, 30)) return NO;
        if (!tellsTwo(ab) || !isWithin(part, 0, 1)) return NO;
        int a = ab / 10, won = 0;
        for (int i = 0; i < seeds; i++) {
            if (winnerDrawn(seed + i, a, ab % 10) == a) won++;
        }
        int common = 1;
        for (int d = 2; d <= seeds; d++) {
            if (won % d == 0 && seeds % d == 0) common = d;
        }
        return part == 0 ? won / common : seeds / common;
    }

    public int image() {
        kept.there = true;
        kept.armCount = armCount;
        kept.lawNumber = lawNumber;
        for (int i = 0; i < MOST_ARMS; i++) {
            kept.holds[i] = arms[i].hold;
            kept.plans[i] = arms[i].plan;
        }
        return armCount;
    }

    public int back() {
        if (!kept.there) return STATE;
        armCount = kept.armCount;
        lawNumber = kept.lawNumber;
        for (int i = 0; i < MOST_ARMS; i++) {
            arms[i].hold = kept.holds[i];
            arms[i].plan = kept.plans[i];
        }
        return armCount;
    }

    // ---- the host

    public int sheet(int s, int sort, int n) {
        if (!isSheet(s) || !isWithin(sort, MISSING, INTS)) return BAD;
        if (sort == MISSING) {
            sheets[s].become(MISSING, 0);
            return 1;
        }
        if (n > MOST_NUMBERS) return BAD;
        if (n < 0) return BELOW_0;
        sheets[s].become(sort, n);
        return 1;
    }

    public int cell(int s, int i, int v) {
        if (!isSheet(s)) return BAD;
        if (sheets[s].sort == MISSING) return NOTHING_THERE;
        if (!sheets[s].hasPlace(i)) return OUTSIDE;
        sheets[s].put(i, v);
        return 1;
    }

    public int copy(int s, int i, int other, int j, int n) {
        if (!isSheet(s) || !isSheet(other)) return BAD;
        Sheet from = sheets[s], to = sheets[other];
        if (from.sort == MISSING || to.sort == MISSING) return NOTHING_THERE;
        if (from.sort != to.sort) return UNLIKE;
        if (!from.hasPlaces(i, n) || !to.hasPlaces(j, n)) return OUTSIDE;
        System.arraycopy(from.numbers, i, to.numbers, j, n);
        return n;
    }

    public int armsBy(int s, int sort, int at, int n) {
        if (!isSheet(s) || !isWithin(sort, BYTES, INTS) || !isWithin(n, 0, MOST_ARMS)) return BAD;
        Sheet by = sheets[s];
        if (by.sort == MISSING) return NOTHING_THERE;
        if (by.sort != sort) return UNLIKE;
        int came = 0, place = at;
        for (int k = 0; k < n; k++) {
            if (!by.hasPlaces(place, 3)) return OUTSIDE;
            if (armComes(by.at(place), by.at(place + 1), by.at(place + 2)) >= 0) came++;
            place += 3;
        }
        return came;
    }

    public int taken(int i, int kind) {
        if (!isWithin(kind, ARM, HOLD)) return BAD;
        if (!isWithin(i, 0, 2 * MOST_ARMS - 1)) return OUTSIDE;
        int a = i % MOST_ARMS;
        boolean forHold = i >= MOST_ARMS;
        if (!isArm(a) || forHold && arms[a].hold == 0) return NOTHING_THERE;
        if (forHold) return kind == HOLD ? arms[a].hold : UNLIKE;
        return kind != HOLD && arms[a].isOf(kind) ? a : UNLIKE;
    }

    // ---- what the calls share

    private static boolean isWithin(int v, int least, int most) {
        return v >= least && v <= most;
    }

    private static int bounded(int v, int least, int most) {
        if (v < least) return least;
        return v > most ? most : v;
    }

    private static boolean isByte(int v) {
        return isWithin(v, 0, 255);
    }

    private static boolean isPlan(int v) {
        return isWithin(v, 0, 3333) && v / 100 % 10 <= 3 && v / 10 % 10 <= 3 && v % 10 <= 3;
    }

    private static boolean has(int bits, int i) {
        return (bits >> i & 1) == 1;
    }

    private static int digits(int order) {
        int n = 0;
        for (int rest = order; rest > 0 && n < MOST_ARMS; rest /= 10) n++;
        return n;
    }

    private boolean isArm(int a) {
        return isWithin(a, 0, armCount - 1);
    }

    private boolean areTwo(int a, int b) {
        return isArm(a) && isArm(b) && a != b;
    }

    private boolean tellsTwo(int ab) {
        return ab >= 0 && areTwo(ab / 10, ab % 10);
    }

    private static boolean isSheet(int s) {
        return isWithin(s, 0, MOST_SHEETS - 1);
    }

    private int armComes(int kind, int told, int more) {
        if (!isWithin(kind, ARM, HEAVY) || !isWithin(told, 0, 99) || !isWithin(more, 0, 9)) return BAD;
        if (armCount >= MOST_ARMS) return FULL;
        arms[armCount].become(kind, told, more);
        armCount++;
        return armCount - 1;
    }

    private void open(int a, int b) {
        bout.begin(arms[a], arms[b], texts[lawNumber]);
    }

    private int winner(int a, int b) {
        if (bout.angle == 0) return NONE;
        return bout.angle > 0 ? a : b;
    }

    private boolean wouldWin(int a, int b, int hold) {
        open(a, b);
        bout.a.hold = hold;
        bout.playTo(TENTHS);
        return bout.angle > 0;
    }

    private int beaten(int a) {
        int bits = 0;
        for (int b = 0; b < armCount; b++) {
            if (b != a && wouldWin(a, b, arms[a].hold)) bits |= 1 << b;
        }
        return bits;
    }

    // Of orders as long, the first one tried is the first one told: others are tried from the least number on.
    private int longestOrder(int a, int set, int hold, int order, int deeper) {
        int longest = order;
        if (deeper == 0) return longest;
        for (int b = 0; b < armCount; b++) {
            if (!has(set, b) || !wouldWin(a, b, hold)) continue;
            int rested = Math.min(MOST_HOLD, bout.a.hold + 4);
            int further = longestOrder(a, set & ~(1 << b), rested, 10 * order + b + 1, deeper - 1);
            if (digits(further) > digits(longest)) longest = further;
        }
        return longest;
    }

    private int refusalOfTold(int s) {
        if (!isSheet(s)) return BAD;
        if (sheets[s].sort == MISSING) return NOTHING_THERE;
        return sheets[s].size > MOST_TOLD_ANGLES ? BAD : 0;
    }

    private int firstOtherwise(Sheet told) {
        for (int i = 0; i < told.size; i++) {
            bout.playTo(5 * (i + 1));
            if (bout.angle != told.at(i)) return i;
        }
        return NONE;
    }

    private static long lotBehind(long last) {
        return last * 48271L % 2147483647L;
    }

    private int winnerDrawn(int seed, int a, int b) {
        long first = lotBehind(seed + 1L);
        long second = lotBehind(first);
        open(a, b);
        bout.a.late += (int) (first % 4);
        bout.b.late += (int) (second % 4);
        bout.playTo(TENTHS);
        return winner(a, b);
    }

    private static final class Arm {
        int kind, told, more, late, hold, plan;
        // Asked at each tenth of each BOUT, so that the KINDS above are gone through but once.
        private boolean strong, top, hook, heavy;

        void become(int newKind, int newTold, int newMore) {
            kind = newKind;
            told = newTold;
            more = newMore;
            hold = MOST_HOLD;
            plan = FIRST_PLAN;
            strong = isOf(STRONG);
            top = isOf(TOP);
            hook = isOf(HOOK);
            heavy = isOf(HEAVY);
            late = isOf(QUICK) ? Math.max(0, 2 - 1 - more / 5) : 2;
        }

        boolean isOf(int wanted) {
            int above = kind;
            for (int i = 0; i < KIND_ABOVE.length && above != wanted && isWithin(above, ARM, HEAVY); i++) {
                above = KIND_ABOVE[above];
            }
            return above == wanted;
        }

        int forceOf(int said, int holdNow, int angle) {
            int much = said;
            if (strong && holdNow > 12) much += 2 * more;
            if (top && angle > 0) much += angle / 3;
            if (hook && angle < 0) much += -angle / 2;
            if (heavy) much = angle < -2 * more ? much / 2 : much + 5;
            return bounded(much, 0, 400);
        }

        int spendsOf(int said, int hard) {
            int much = said;
            if (top && hard == 3) much++;
            if (heavy) much *= 2;
            return bounded(much, 0, 24);
        }
    }

    /** One of a BOUT's two, in thought: the ARM itself stays as it is. */
    private static final class Side {
        // What the NAMES of a TEXT stand for, as of the tenth that it looks at.
        final int[] names = new int[Text.NAMES];
        int hold, plan, late;
        private Arm arm;

        Side(Arm first) {
            arm = first;
        }

        void begin(Arm one) {
            arm = one;
            hold = one.hold;
            plan = one.plan;
            late = one.late;
            names[Text.TOLD] = one.told;
            names[Text.MORE] = one.more;
        }

        void looks(int hard, int angle, int tenth) {
            names[Text.HOLD] = hold;
            names[Text.HARD] = hard;
            names[Text.ANGLE] = angle;
            names[Text.TENTH] = tenth;
        }

        int hardAt(int tenth) {
            if (tenth < late) return 0;
            switch (tenth / PART_TENTHS) {
                case 0: return plan / 1000 % 10;
                case 1: return plan / 100 % 10;
                case 2: return plan / 10 % 10;
                default: return plan % 10;
            }
        }

        int presses(Text law) {
            return arm.forceOf(law.says(FORCE, names), hold, names[Text.ANGLE]);
        }

        void tires(Text law) {
            int hard = names[Text.HARD];
            int change = hard == 0 ? 1 : -arm.spendsOf(law.says(SPENDS, names), hard);
            hold = bounded(hold + change, 0, MOST_HOLD);
        }
    }

    private static final class Bout {
        final Side a, b;
        Text law;
        int angle, tenth, hurt;
        // Only one call wants HURT, so that the others need not ask the law for it.
        boolean watched;

        Bout(Arm first, Arm second, Text firstLaw) {
            a = new Side(first);
            b = new Side(second);
            law = firstLaw;
        }

        void begin(Arm one, Arm other, Text text) {
            a.begin(one);
            b.begin(other);
            law = text;
            angle = 0;
            tenth = 0;
            hurt = 0;
            watched = false;
        }

        boolean isOver() {
            return angle <= -DOWN || angle >= DOWN;
        }

        void playTo(int end) {
            for (int t = tenth; t < end && t < TENTHS && !isOver(); t++) {
                a.looks(a.hardAt(t), angle, t);
                b.looks(b.hardAt(t), -angle, t);
                int change = (a.presses(law) - b.presses(law)) / 10;
                if (watched) hurt = Math.max(hurt, law.says(HURTS, a.names));
                a.tires(law);
                b.tires(law);
                angle = bounded(angle + change, -DOWN, DOWN);
                tenth = t + 1;
            }
        }
    }

    /** Tries all PLANS of a BOUT's a; those that begin alike are played anew only from the PART on that differs. */
    private static final class Seeker {
        private final Bout bout;
        private final int[] angles = new int[PARTS], holdsA = new int[PARTS], holdsB = new int[PARTS];
        int plan, angle, hold, ownAngle;

        Seeker(Bout played) {
            bout = played;
        }

        void seek() {
            int own = bout.a.plan;
            keep(0);
            for (int number = 0; number < 256; number++) {
                bout.a.plan = number / 64 * 1000 + number / 16 % 4 * 100 + number / 4 % 4 * 10 + number % 4;
                playFrom(firstOther(number));
                if (number == 0 || isBetter()) take();
                if (bout.a.plan == own) ownAngle = bout.angle;
            }
        }

        private static int firstOther(int number) {
            if (number % 64 == 0) return 0;
            if (number % 16 == 0) return 1;
            return number % 4 == 0 ? 2 : 3;
        }

        private void playFrom(int first) {
            bout.tenth = first * PART_TENTHS;
            bout.angle = angles[first];
            bout.a.hold = holdsA[first];
            bout.b.hold = holdsB[first];
            for (int part = first; part < PARTS; part++) {
                keep(part);
                bout.playTo((part + 1) * PART_TENTHS);
            }
        }

        private void keep(int part) {
            angles[part] = bout.angle;
            holdsA[part] = bout.a.hold;
            holdsB[part] = bout.b.hold;
        }

        private boolean isBetter() {
            return bout.angle > angle || bout.angle == angle && bout.a.hold > hold;
        }

        private void take() {
            plan = bout.a.plan;
            angle = bout.angle;
            hold = bout.a.hold;
        }
    }

    /** A TEXT as a row of steps for a stack: 0 and above a NUMBER, -1 .. -6 a NAME, further below what is done. */
    private static final class Text {
        static final int TOLD = 0, MORE = 1, HOLD = 2, HARD = 3, ANGLE = 4, TENTH = 5, NAMES = 6;
        static final int MINUS = -11, NOT = -12;
        static final int PLUS = -21, LESS = -22, TIMES = -23, BELOW = -24, LIKE = -25, AND = -26, OR = -27;

        private final int[] stack;
        private final int[] steps = new int[MOST_BYTES];
        private int used, forceEnd, spendsEnd;

        Text(int[] shared) {
            stack = shared;
        }

        void empty() {
            used = 0;
        }

        void add(int step) {
            if (used >= steps.length) return;
            steps[used] = step;
            used++;
        }

        void endPart(int part) {
            if (part == FORCE) forceEnd = used;
            if (part == SPENDS) spendsEnd = used;
        }

        int says(int part, int[] names) {
            switch (part) {
                case FORCE: return bounded(worth(0, forceEnd, names), 0, 200);
                case SPENDS: return bounded(worth(forceEnd, spendsEnd, names), 0, 9);
                default: return bounded(worth(spendsEnd, used, names), 0, 100);
            }
        }

        private int worth(int from, int to, int[] names) {
            int top = 0;
            for (int i = from; i < to && i < steps.length; i++) {
                int step = steps[i];
                if (step >= -NAMES) {
                    if (top >= stack.length) return 0;
                    stack[top] = step >= 0 ? step : names[-1 - step];
                    top++;
                } else if (step >= NOT) {
                    if (top < 1) return 0;
                    stack[top - 1] = ofOne(step, stack[top - 1]);
                } else {
                    if (top < 2) return 0;
                    top--;
                    stack[top - 1] = ofTwo(step, stack[top - 1], stack[top]);
                }
            }
            return top < 1 ? 0 : stack[top - 1];
        }

        private static int ofOne(int step, int x) {
            if (step == MINUS) return -x;
            return x == 0 ? 1 : 0;
        }

        private static int ofTwo(int step, int x, int y) {
            switch (step) {
                case PLUS: return x + y;
                case LESS: return x - y;
                case TIMES: return x * y;
                case BELOW: return x < y ? 1 : 0;
                case LIKE: return x == y ? 1 : 0;
                case AND: return x != 0 && y != 0 ? 1 : 0;
                default: return x != 0 || y != 0 ? 1 : 0;
            }
        }
    }

    private static final class Tape {
        private final int[] bytes = new int[MOST_BYTES];
        int size;

        void add(int v) {
            if (size >= bytes.length) return;
            bytes[size] = v;
            size++;
        }

        void empty() {
            size = 0;
        }

        int at(int place) {
            return place >= 0 && place < size && place < bytes.length ? bytes[place] : NONE;
        }

        boolean isBlank(int place) {
            return at(place) == ' ' || at(place) == '\n';
        }

        boolean isLetter(int place) {
            return isWithin(at(place), 'a', 'z');
        }

        boolean isDigit(int place) {
            return isWithin(at(place), '0', '9');
        }
    }

    /** The TOKENS of THE TAPE: a SIGN's kind is its own byte; behind the last one stands END. */
    private static final class Tokens {
        static final int END = 0, WRONG = 1, NUMBER = 2, NAME = 3;
        static final int FIRST_KEY = 10, OR = FIRST_KEY + 3, AND = FIRST_KEY + 4, NOT = FIRST_KEY + 5;
        private static final int KEYS = 6, MOST_DIGITS = 4;
        private static final String WORDS = "force spends hurts or and not told more hold hard angle tenth ";
        private static final String SIGNS = "();+-*<=";

        private final Tape tape;
        private final int[] kinds = new int[MOST_BYTES + 1];
        private final int[] values = new int[MOST_BYTES + 1];
        private final int[] places = new int[MOST_BYTES + 1];
        private int size, next;

        Tokens(Tape read) {
            tape = read;
        }

        void readTape() {
            size = 0;
            next = 0;
            for (int i = 0; i < MOST_BYTES && next < tape.size; i++) {
                if (tape.isBlank(next)) next++;
                else if (tape.isLetter(next)) takeWord();
                else if (tape.isDigit(next)) takeNumber();
                else takeSign();
            }
            add(END, 0, tape.size);
        }

        int kind(int i) {
            return i >= 0 && i < size ? kinds[i] : END;
        }

        int value(int i) {
            return i >= 0 && i < size ? values[i] : 0;
        }

        int place(int i) {
            return i >= 0 && i < size ? places[i] : tape.size;
        }

        private void add(int kind, int value, int place) {
            if (size >= kinds.length) return;
            kinds[size] = kind;
            values[size] = value;
            places[size] = place;
            size++;
        }

        private void takeWord() {
            int from = next;
            for (int i = from; i < tape.size && tape.isLetter(i); i++) next++;
            int number = wordNumber(from, next);
            if (number == NONE) add(WRONG, 0, from);
            else if (number < KEYS) add(FIRST_KEY + number, 0, from);
            else add(NAME, number - KEYS, from);
        }

        private int wordNumber(int from, int to) {
            int number = 0, at = from;
            boolean alike = true;
            for (int i = 0; i < WORDS.length(); i++) {
                char letter = WORDS.charAt(i);
                if (letter != ' ') {
                    alike = alike && at < to && tape.at(at) == letter;
                    at++;
                } else if (alike && at == to) {
                    return number;
                } else {
                    number++;
                    at = from;
                    alike = true;
                }
            }
            return NONE;
        }

        private void takeNumber() {
            int from = next, value = 0;
            for (int i = from; i < tape.size && tape.isDigit(i); i++) {
                value = 10 * value + tape.at(i) - '0';
                next++;
            }
            add(next - from > MOST_DIGITS ? WRONG : NUMBER, value, from);
        }

        private void takeSign() {
            int sign = tape.at(next);
            add(SIGNS.indexOf((char) sign) >= 0 ? sign : WRONG, 0, next);
            next++;
        }
    }

    /** Makes a TEXT of THE TAPE. Behind a FAULT no TOKEN is taken any more, so that the first one stays. */
    private static final class Reader {
        private static final int MOST_OPEN = 5;
        // E, AND, NOT, SUM, TERM: each a row of the next level's, with signs of its own between them.
        private static final int EITHER = 0, BOTH = 1, COMPARED = 2, SUM = 3, TERM = 4;

        private final Tokens tokens;
        Text made;
        private int at, fault;

        Reader(Tape tape, Text first) {
            tokens = new Tokens(tape);
            made = first;
        }

        /** The FAULT's place, or NONE. */
        int read() {
            made.empty();
            at = 0;
            fault = NONE;
            tokens.readTape();
            for (int part = FORCE; part <= HURTS; part++) {
                expect(Tokens.FIRST_KEY + part);
                readLevel(EITHER, 0);
                expect(';');
                made.endPart(part);
            }
            expect(Tokens.END);
            return fault;
        }

        private boolean is(int kind) {
            return fault == NONE && tokens.kind(at) == kind;
        }

        private void fail() {
            if (fault == NONE) fault = tokens.place(at);
        }

        private void expect(int kind) {
            if (is(kind)) at++;
            else fail();
        }

        private void readLevel(int level, int open) {
            if (level > TERM) {
                readOne(open);
            } else if (level == COMPARED && is(Tokens.NOT)) {
                readNot(open);
            } else {
                readLevel(level + 1, open);
                int most = level == COMPARED ? 1 : MOST_BYTES;
                for (int i = 0; i < most && isSignOf(level); i++) {
                    int step = stepOf(tokens.kind(at));
                    at++;
                    readLevel(level + 1, open);
                    made.add(step);
                }
            }
        }

        private void readNot(int open) {
            if (!opens(open)) return;
            readLevel(COMPARED, open + 1);
            made.add(Text.NOT);
        }

        private void readOne(int open) {
            if (is(Tokens.NUMBER)) {
                made.add(tokens.value(at));
                at++;
            } else if (is(Tokens.NAME)) {
                made.add(-1 - tokens.value(at));
                at++;
            } else if (is('-')) {
                if (!opens(open)) return;
                readOne(open + 1);
                made.add(Text.MINUS);
            } else if (is('(')) {
                if (!opens(open)) return;
                readLevel(EITHER, open + 1);
                expect(')');
            } else {
                fail();
            }
        }

        private boolean opens(int open) {
            if (open >= MOST_OPEN) fail();
            else at++;
            return open < MOST_OPEN;
        }

        private boolean isSignOf(int level) {
            switch (level) {
                case EITHER: return is(Tokens.OR);
                case BOTH: return is(Tokens.AND);
                case COMPARED: return is('<') || is('=');
                case SUM: return is('+') || is('-');
                default: return is('*');
            }
        }

        private static int stepOf(int kind) {
            switch (kind) {
                case Tokens.OR: return Text.OR;
                case Tokens.AND: return Text.AND;
                case '<': return Text.BELOW;
                case '=': return Text.LIKE;
                case '+': return Text.PLUS;
                case '-': return Text.LESS;
                default: return Text.TIMES;
            }
        }
    }

    private static final class Sheet {
        final int[] numbers = new int[MOST_NUMBERS];
        int sort = MISSING, size;

        void become(int newSort, int n) {
            sort = newSort;
            size = bounded(n, 0, MOST_NUMBERS);
            for (int i = 0; i < MOST_NUMBERS; i++) numbers[i] = 0;
        }

        boolean hasPlace(int i) {
            return isWithin(i, 0, size - 1);
        }

        // Not by i and n together, which may wrap around.
        boolean hasPlaces(int i, int n) {
            return i >= 0 && isWithin(n, 0, size) && i <= size - n;
        }

        int at(int i) {
            return hasPlace(i) && i < numbers.length ? numbers[i] : 0;
        }

        void put(int i, int v) {
            if (!hasPlace(i) || i >= numbers.length) return;
            if (sort == BYTES) numbers[i] = (byte) v;
            else if (sort == SHORTS) numbers[i] = (short) v;
            else numbers[i] = v;
        }
    }

    private static final class Image {
        final int[] holds = new int[MOST_ARMS], plans = new int[MOST_ARMS];
        boolean there;
        int armCount, lawNumber;
    }
}
