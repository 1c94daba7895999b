import java.util.List;
import java.util.function.Supplier;

/**
 * Of each promise: the least and the greatest number that each of its places takes, one below and one above; what it
 * refuses, of several the first one told; that a refused call, and one that only asks, changes nothing.
 */
final class RefusedTest {
    private static final Check c = new Check();
    private static final int MIN = Integer.MIN_VALUE, MAX = Integer.MAX_VALUE;
    private static final int NONE_THERE = -11, OUTSIDE = -12, UNLIKE = -13, BELOW_0 = -14;

    /** A call by its numbers, in the document's order. */
    private interface Call {
        long by(ArmAgainstArm x, int[] v);
    }

    /** What one call is: its promise, how it is called, numbers that it takes, ahead of which state. */
    private record Row(int promise, String name, Supplier<ArmAgainstArm> state, Call call, int... taken) { }

    /** A number that is refused, at a place of a Row, and by what. */
    private record Wrong(long due, int place, int v) { }

    public static void main(String[] args) {
        states();
        law();
        arms();
        bouts();
        howHard();
        rows();
        toldBouts();
        lots();
        sheets();
        armsByAndTaken();
        nobody();
        c.end();
    }

    // ---- states: what a refused call finds

    /** Four ARMS (an IMAGE of three, else as well), two TEXTS, half a TAPE; SHEETS: 8 bytes, 9 shorts, 0 ints, none. */
    static ArmAgainstArm some() {
        ArmAgainstArm x = Check.under("force told*2;spends 2;hurts 5;");
        x.arm(1, 60, 3);
        x.arm(4, 50, 6);
        x.arm(5, 70, 2);
        x.set(0, 0, 20);
        x.set(1, 0, 11);
        x.set(2, 0, 3);
        x.set(0, 1, 2103);
        x.set(2, 1, 3330);
        x.image();
        x.arm(0, 30, 0);
        x.set(0, 0, 19);
        x.set(1, 1, 123);
        x.set(2, 0, 0);
        x.force(0);
        Check.sheet(x, 0, 0, 1, 2, 3, 4, 5, 0, 1, 2);
        Check.sheet(x, 1, 1, 5, 4, 3, 2, 1, 0, 5, 4, 3);
        Check.sheet(x, 2, 2);
        Check.feed(x, "force 7;spends 3;hu");
        return x;
    }

    /** Six ARMS (an IMAGE of five), six TEXTS, a full TAPE, SHEETS of 40 bytes, shorts, ints, and one of 8 ints. */
    static ArmAgainstArm full() {
        ArmAgainstArm x = new ArmAgainstArm();
        for (int t = 1; t < 6; t++) {
            String[] parts = {"force", " " + t + ";sp", "ends ", "1;hur", "ts 2;"};
            for (String p : parts) x.feed(5, p.charAt(0), p.charAt(1), p.charAt(2), p.charAt(3), p.charAt(4));
            x.text();
        }
        for (int kind = 0; kind < 6; kind++) {
            if (kind == 5) x.image();
            x.arm(kind, 40 + 3 * kind, kind);
        }
        x.force(3);
        for (int i = 0; i < 32; i++) x.feed(5, '1', '2', '+', '3', ' ');
        for (int s = 0; s < 3; s++) {
            x.sheet(s, s, 40);
            for (int i = 0; i < 3; i++) {
                x.cell(s, i, i + 1);
                x.cell(s, 37 + i, 5 - i);
            }
        }
        x.film(3, 52, 8);
        return x;
    }

    /** Two ARMS, another LAW, no IMAGE. */
    static ArmAgainstArm noImage() {
        ArmAgainstArm x = Check.under("force told*2;spends 2;hurts 5;");
        x.arm(1, 60, 3);
        x.arm(4, 50, 6);
        x.set(0, 0, 7);
        x.set(1, 1, 2103);
        return x;
    }

    private static void states() {
        c.promise(1, "what is asked changes nothing");
        c.same("four arms", some().count(0), 4);
        c.same("two texts", some().count(1), 2);
        c.same("half a tape", some().count(3), 19);
        c.same("six arms", full().count(0), 6);
        c.same("six texts", full().count(1), 6);
        c.same("a full tape", full().count(3), 160);
        c.that("two alike stand alike", Look.at(some()).equals(Look.at(some())));
        looks(x -> x.set(3, 0, 23));
        looks(x -> x.set(3, 1, 1110));
        looks(x -> x.cell(0, 7, 3));
        looks(x -> x.cell(1, 8, 4));
        looks(x -> x.sheet(2, 2, 1));
        looks(x -> x.sheet(3, 0, 0));
        looks(x -> x.feed(1, ' ', 0, 0, 0, 0));
        looks(x -> x.force(1));
        looks(ArmAgainstArm::image);
        looks(ArmAgainstArm::text);
        looks(x -> x.arm(0, 0, 0));
    }

    /** That a change can be seen at all. */
    private static void looks(java.util.function.ToIntFunction<ArmAgainstArm> change) {
        ArmAgainstArm x = some();
        change.applyAsInt(x);
        c.that("another one stands otherwise", !Look.at(x).equals(Look.at(some())));
    }

    // ---- how a Row is tried

    private static int[] with(int[] v, int place, int number) {
        int[] other = v.clone();
        if (place >= 0) other[place] = number;
        return other;
    }

    private static String told(Row row, int[] v) {
        StringBuilder s = new StringBuilder(row.name + "(");
        for (int i = 0; i < v.length; i++) s.append(i == 0 ? "" : ", ").append(v[i]);
        return s.append(")").toString();
    }

    private static void changesNothing(Row row, int[] v, ArmAgainstArm x) {
        c.that(told(row, v) + " changes nothing", Look.at(x).equals(Look.at(row.state.get())));
    }

    private static void refuses(Row row, int[] v, long due) {
        c.promise(row.promise, row.name);
        ArmAgainstArm x = row.state.get();
        c.same(told(row, v), row.call.by(x, v), due);
        changesNothing(row, v, x);
    }

    /** Each answer that is told is given, and nothing changed. */
    private static void asks(Row row, long due) {
        refuses(row, row.taken, due);
    }

    /** At a place the least and the greatest are taken; one below, one above and what is far off is refused. */
    private static void ends(Row row, int place, int least, int greatest, long below, long above) {
        c.promise(row.promise, row.name);
        for (int v : new int[] {least, greatest}) {
            int[] taken = with(row.taken, place, v);
            long answer = row.call.by(row.state.get(), taken);
            c.that(told(row, taken) + " answered " + answer, answer != below && answer != above);
        }
        refuses(row, with(row.taken, place, least - 1), below);
        refuses(row, with(row.taken, place, MIN), below);
        refuses(row, with(row.taken, place, greatest + 1), above);
        refuses(row, with(row.taken, place, MAX), above);
    }

    private static void ends(Row row, int place, int least, int greatest, long refused) {
        ends(row, place, least, greatest, refused, refused);
    }

    /** Each of these alone, and each two of them at unlike places: of those the first one told. */
    private static void firsts(Row row, Wrong... wrong) {
        for (int i = 0; i < wrong.length; i++) {
            int[] one = with(row.taken, wrong[i].place, wrong[i].v);
            refuses(row, one, wrong[i].due);
            for (int j = i + 1; j < wrong.length; j++) {
                if (wrong[i].place == wrong[j].place) continue;
                refuses(row, with(one, wrong[j].place, wrong[j].v), wrong[i].due);
            }
        }
    }

    private static Wrong wrong(long due, int place, int v) {
        return new Wrong(due, place, v);
    }

    // ---- 2 to 6: the law

    private static void law() {
        Row count = new Row(2, "count", RefusedTest::some, (x, v) -> x.count(v[0]), 0);
        ends(count, 0, 0, 3, -2);
        asks(count, 4);
        feeds();
        Row text = new Row(4, "text", RefusedTest::full, (x, v) -> x.text());
        asks(text, -4);
        Row force = new Row(5, "force", RefusedTest::some, (x, v) -> x.force(v[0]), 1);
        ends(force, 0, 0, 1, -2);
        ends(new Row(5, "force", RefusedTest::full, (x, v) -> x.force(v[0]), 1), 0, 0, 5, -2);
        ends(new Row(5, "force", ArmAgainstArm::new, (x, v) -> x.force(v[0]), 0), 0, 0, 0, -2);
        Row asked = new Row(6, "asks", RefusedTest::some, (x, v) -> x.asks(v[0], v[1], v[2], v[3], v[4]), 0, 0, 121, -7, 9);
        asks(asked, 60 + 6 + 12);
        ends(asked, 0, 0, 2, -7);
        ends(asked, 1, 0, 3, -5);
        ends(asked, 2, 0, 243, -7);
        ends(asked, 3, -30, 30, -7);
        ends(asked, 4, 0, 40, -7);
        for (int v = -30; v < 300; v++) {
            boolean taken = v >= 0 && v / 10 <= 24 && v % 10 <= 3;
            c.same("holdHard " + v, some().asks(0, 0, v, 0, 0), taken ? 60 + v % 10 * 6 + v / 10 : -7);
        }
        firsts(asked, wrong(-5, 1, 4), wrong(-5, 1, -1), wrong(-7, 0, 3), wrong(-7, 2, 244), wrong(-7, 2, 4), wrong(-7, 3, 31),
            wrong(-7, 3, -31), wrong(-7, 4, 41), wrong(-7, 4, -1));
    }

    private static void feeds() {
        Call call = (x, v) -> x.feed(v[0], v[1], v[2], v[3], v[4], v[5]);
        Row feed = new Row(3, "feed", RefusedTest::some, call, 3, 1, 2, 3, 4, 5);
        ends(feed, 0, 1, 5, -2);
        for (int place = 1; place < 6; place++) {
            // Any of the five is looked at, also one that would not come.
            ends(feed, place, 0, 255, -2);
            ends(new Row(3, "feed", RefusedTest::some, call, 1, 1, 2, 3, 4, 5), place, 0, 255, -2);
        }
        for (int n = 1; n <= 5; n++) {
            Row full = new Row(3, "feed", RefusedTest::full, call, n, 1, 2, 3, 4, 5);
            asks(full, -4);
            firsts(full, wrong(-2, 1, 256), wrong(-2, 5, -1), wrong(-4, -1, 0));
            refuses(full, with(full.taken, 0, 6), -2);
            refuses(full, with(full.taken, 0, 0), -2);
        }
    }

    // ---- 7 to 9: arms

    private static void arms() {
        Call arm = (x, v) -> x.arm(v[0], v[1], v[2]);
        Row one = new Row(7, "arm", RefusedTest::some, arm, 2, 50, 5);
        ends(one, 0, 0, 5, -2);
        ends(one, 1, 0, 99, -2);
        ends(one, 2, 0, 9, -2);
        firsts(new Row(7, "arm", RefusedTest::full, arm, 2, 50, 5), wrong(-2, 0, 6), wrong(-2, 0, -1), wrong(-2, 1, 100),
            wrong(-2, 1, -1), wrong(-2, 2, 10), wrong(-2, 2, -1), wrong(-4, -1, 0));
        Call set = (x, v) -> x.set(v[0], v[1], v[2]);
        Row hold = new Row(8, "set", RefusedTest::some, set, 1, 0, 5), plan = new Row(8, "set", RefusedTest::some, set, 1, 1, 5);
        ends(hold, 0, 0, 3, -5);
        ends(hold, 2, 0, 24, -7);
        ends(new Row(8, "set", RefusedTest::some, set, 1, 1, 3), 1, 0, 1, -7);
        ends(plan, 2, 0, 3333, -7);
        firsts(hold, wrong(-5, 0, 4), wrong(-5, 0, -1), wrong(-7, 1, 2), wrong(-7, 1, -1), wrong(-7, 2, 25), wrong(-7, 2, -1));
        firsts(plan, wrong(-5, 0, 4), wrong(-7, 2, 4), wrong(-7, 2, 40), wrong(-7, 2, 400), wrong(-7, 2, 3334));
        Row told = new Row(9, "told", RefusedTest::some, (x, v) -> x.told(v[0], v[1]), 2, 3);
        asks(told, 70);
        ends(told, 0, 0, 3, -5);
        ends(told, 1, 0, 5, -7);
        firsts(told, wrong(-5, 0, 4), wrong(-5, 0, -1), wrong(-7, 1, 6), wrong(-7, 1, -1));
    }

    // ---- 10 to 13: bouts


    private static void bouts() {
        Row match = new Row(10, "match", RefusedTest::some, (x, v) -> x.match(v[0], v[1], v[2]), 12, 9, 0);
        pairs(match, 0, -100);
        ends(match, 1, 0, 40, -200);
        ends(match, 2, 0, 3, -200);
        firsts(match, wrong(-100, 0, 14), wrong(-100, 0, -1), wrong(-200, 1, 41), wrong(-200, 1, -1), wrong(-200, 2, 4), wrong(-200, 2, -1));
        Row wins = new Row(11, "wins", RefusedTest::some, (x, v) -> x.wins(v[0], v[1], v[2]), 1, 2, 0);
        couples(wins, 0, 1, -5);
        ends(wins, 2, 0, 1, -7);
        firsts(wins, wrong(-5, 0, 4), wrong(-5, 0, 2), wrong(-5, 1, -1), wrong(-7, 2, 2), wrong(-7, 2, -1));
        Row fight = new Row(12, "fight", RefusedTest::some, (x, v) -> x.fight(v[0], v[1]), 1, 2);
        couples(fight, 0, 1, -100);
        Row rest = new Row(13, "rest", RefusedTest::some, (x, v) -> x.rest(v[0]), 3);
        ends(rest, 0, 0, 24, -2);
    }

    /** A place where one number tells a BOUT's two: with four ARMS, all from below 0 to above 100. */
    private static void pairs(Row row, int place, long none) {
        c.promise(row.promise, row.name);
        for (int ab = -50; ab < 150; ab++) {
            int a = Math.floorDiv(ab, 10), b = Math.floorMod(ab, 10);
            boolean taken = a >= 0 && a < 4 && b < 4 && a != b;
            int[] v = with(row.taken, place, ab);
            c.that(told(row, v), row.call.by(row.state.get(), v) == none != taken);
        }
        for (int ab : new int[] {-1, 0, 11, 33, 4, 40, 44, 100, 101, MIN, MAX}) refuses(row, with(row.taken, place, ab), none);
    }

    /** Two places that tell a BOUT's two: with four ARMS, each with each, itself, one that isn't there. */
    private static void couples(Row row, int placeA, int placeB, long none) {
        c.promise(row.promise, row.name);
        int[] all = {-1, 0, 1, 2, 3, 4, MIN, MAX};
        for (int a : all) {
            for (int b : all) {
                boolean taken = a >= 0 && a < 4 && b >= 0 && b < 4 && a != b;
                int[] v = with(with(row.taken, placeA, a), placeB, b);
                if (taken) c.that(told(row, v), row.call.by(row.state.get(), v) != none);
                else refuses(row, v, none);
            }
        }
    }

    // ---- 14 to 17: how hard

    private static void howHard() {
        Row best = new Row(14, "best", RefusedTest::some, (x, v) -> x.best(v[0], v[1], v[2]), 1, 2, 0);
        couples(best, 0, 1, -100);
        ends(best, 2, 0, 2, -200);
        firsts(best, wrong(-100, 0, 4), wrong(-100, 0, 2), wrong(-100, 1, 4), wrong(-200, 2, 3), wrong(-200, 2, -1));
        couples(new Row(15, "even", RefusedTest::some, (x, v) -> x.even(v[0], v[1]), 1, 2), 0, 1, -5);
        couples(new Row(16, "line", RefusedTest::some, (x, v) -> x.line(v[0], v[1]), 1, 2), 0, 1, -100);
        couples(new Row(17, "needs", RefusedTest::some, (x, v) -> x.needs(v[0], v[1]), 1, 2), 0, 1, -5);
        for (int what = 0; what < 3; what++) unchanged(new Row(14, "best", RefusedTest::some, best.call, 2, 0, what));
        unchanged(new Row(15, "even", RefusedTest::some, (x, v) -> x.even(v[0], v[1]), 0, 1));
        unchanged(new Row(16, "line", RefusedTest::some, (x, v) -> x.line(v[0], v[1]), 1, 2));
        unchanged(new Row(17, "needs", RefusedTest::some, (x, v) -> x.needs(v[0], v[1]), 0, 2));
        for (int what = 0; what < 4; what++) {
            unchanged(new Row(10, "match", RefusedTest::some, (x, v) -> x.match(v[0], v[1], v[2]), 2, 40, what));
        }
        unchanged(new Row(11, "wins", RefusedTest::some, (x, v) -> x.wins(v[0], v[1], v[2]), 0, 2, 0));
        unchanged(new Row(11, "wins", RefusedTest::some, (x, v) -> x.wins(v[0], v[1], v[2]), 0, 2, 1));
    }

    /** A call that asks, whatever it answers. */
    private static void unchanged(Row row) {
        c.promise(row.promise, row.name);
        ArmAgainstArm x = row.state.get();
        row.call.by(x, row.taken);
        changesNothing(row, row.taken, x);
    }

    // ---- 18 to 20: rows, rings

    private static void rows() {
        Row row = new Row(18, "row", RefusedTest::some, (x, v) -> x.row(v[0], v[1], v[2]), 0, 2, 0);
        ends(new Row(18, "row", RefusedTest::some, row.call, 0, 0, 0), 0, 0, 3, -5);
        ends(new Row(18, "row", RefusedTest::some, row.call, 0, 2, 0), 1, 0, 14, -7);
        ends(row, 2, 0, 1, -7);
        firsts(row, wrong(-5, 0, 4), wrong(-5, 0, -1), wrong(-7, 1, 1), wrong(-7, 1, 16), wrong(-7, 1, -1), wrong(-7, 2, 2), wrong(-7, 2, -1));
        sets(RefusedTest::some, 4);
        sets(RefusedTest::full, 6);
        unchanged(new Row(18, "row", RefusedTest::full, row.call, 5, 30, 1));
        Row beats = new Row(19, "beats", RefusedTest::some, (x, v) -> x.beats(v[0]), 0);
        ends(beats, 0, 0, 3, -5);
        unchanged(beats);
        Row rings = new Row(20, "rings", RefusedTest::some, (x, v) -> x.rings(v[0]), 0);
        ends(rings, 0, 0, 1, -2);
        unchanged(rings);
    }

    /** Each set from below 0 to beyond six ARMS, for each a. */
    private static void sets(Supplier<ArmAgainstArm> state, int arms) {
        c.promise(18, "row");
        for (int a = 0; a < arms; a++) {
            ArmAgainstArm x = state.get();
            for (int set = -3; set < 70; set++) {
                boolean taken = set >= 0 && set < 1 << arms && (set >> a & 1) == 0 && Integer.bitCount(set) < 5;
                c.that("row(" + a + ", " + set + ", 0)", x.row(a, set, 0) == -7 != taken);
            }
        }
    }

    // ---- 21 to 25: told bouts

    private static void toldBouts() {
        Row[] all = {
            new Row(21, "judge", RefusedTest::some, (x, v) -> x.judge(v[0], v[1], v[2]), 0, 1, 2),
            new Row(22, "left", RefusedTest::some, (x, v) -> x.left(v[0], v[1], v[2]), 0, 1, 2),
            new Row(24, "laws", RefusedTest::some, (x, v) -> x.laws(v[0], v[1], v[2]), 0, 1, 2),
        };
        for (Row row : all) {
            sheetNumber(row);
            couples(row, 1, 2, -5);
            firsts(row, wrong(-2, 0, 4), wrong(-2, 0, -1), wrong(NONE_THERE, 0, 3), wrong(-2, 0, 1), wrong(-5, 1, 4), wrong(-5, 1, 2),
                wrong(-5, 2, -1));
            unchanged(row);
            // Of a SHEET that tells nothing the answer would be -1, or all: the refusal is ahead.
            refuses(row, new int[] {2, 1, 1}, -5);
        }
        Row whom = new Row(23, "whom", RefusedTest::some, (x, v) -> x.whom(v[0], v[1]), 0, 1);
        sheetNumber(whom);
        ends(whom, 1, 0, 3, -5);
        firsts(whom, wrong(-2, 0, 4), wrong(-2, 0, -1), wrong(NONE_THERE, 0, 3), wrong(-2, 0, 1), wrong(-5, 1, 4), wrong(-5, 1, -1));
        unchanged(whom);
        Row film = new Row(25, "film", RefusedTest::some, (x, v) -> x.film(v[0], v[1], v[2]), 0, 12, 3);
        ends(film, 0, 0, 3, -2);
        pairs(film, 1, -5);
        ends(film, 2, 0, 8, -7);
        firsts(film, wrong(-2, 0, 4), wrong(-2, 0, -1), wrong(-5, 1, 11), wrong(-5, 1, 14), wrong(-5, 1, -1), wrong(-7, 2, 9), wrong(-7, 2, -1));
    }

    /** 0 and 2 are there, 1 tells 9 numbers, 3 is missing. */
    private static void sheetNumber(Row row) {
        c.promise(row.promise, row.name);
        long[] due = {0, -2, 0, NONE_THERE};
        for (int s = 0; s < 4; s++) {
            int[] v = with(row.taken, 0, s);
            if (due[s] != 0) refuses(row, v, due[s]);
            else c.that(told(row, v), row.call.by(row.state.get(), v) >= -1);
        }
        for (int s : new int[] {-1, 4, MIN, MAX}) refuses(row, with(row.taken, 0, s), -2);
        Row nine = new Row(row.promise, row.name, RefusedTest::full, row.call, row.taken);
        for (int s = 0; s < 3; s++) refuses(nine, with(row.taken, 0, s), -2);
        c.that("eight are taken", row.call.by(full(), with(row.taken, 0, 3)) >= -1);
    }

    // ---- 26 to 29: starts by lot

    private static void lots() {
        Row drawn = new Row(26, "drawn", RefusedTest::some, (x, v) -> x.drawn(v[0], v[1], v[2]), 7, 1, 2);
        couples(drawn, 1, 2, -5);
        ends(drawn, 0, 0, 99999, -7);
        firsts(drawn, wrong(-5, 1, 4), wrong(-5, 1, 2), wrong(-5, 2, -1), wrong(-7, 0, 100000), wrong(-7, 0, -1));
        unchanged(drawn);
        long no = -4611686018427387904L;
        Row odds = new Row(27, "odds", RefusedTest::some, (x, v) -> x.odds(v[0], v[1], v[2], v[3]), 7, 6, 12, 1);
        ends(odds, 0, 0, 99999, no);
        ends(odds, 1, 1, 30, no);
        pairs(odds, 2, no);
        ends(odds, 3, 0, 1, no);
        firsts(odds, wrong(no, 0, -1), wrong(no, 0, 100000), wrong(no, 1, 0), wrong(no, 1, 31), wrong(no, 2, 11), wrong(no, 3, 2), wrong(no, 3, -1));
        unchanged(odds);
        asks(new Row(29, "back", ArmAgainstArm::new, (x, v) -> x.back()), -3);
        asks(new Row(29, "back", RefusedTest::noImage, (x, v) -> x.back()), -3);
    }

    // ---- 30 to 34: the host

    private static void sheets() {
        Row sheet = new Row(30, "sheet", RefusedTest::some, (x, v) -> x.sheet(v[0], v[1], v[2]), 0, 1, 5);
        ends(sheet, 0, 0, 3, -2);
        ends(sheet, 1, -1, 2, -2);
        ends(sheet, 2, 0, 40, BELOW_0, -2);
        firsts(sheet, wrong(-2, 0, 4), wrong(-2, 0, -1), wrong(-2, 1, 3), wrong(-2, 1, -2), wrong(-2, 2, 41), wrong(BELOW_0, 2, -1));
        Row cell = new Row(31, "cell", RefusedTest::some, (x, v) -> x.cell(v[0], v[1], v[2]), 0, 2, 5);
        ends(cell, 1, 0, 7, OUTSIDE);
        ends(new Row(31, "cell", RefusedTest::full, cell.call, 2, 2, 5), 1, 0, 39, OUTSIDE);
        ends(new Row(31, "cell", RefusedTest::full, cell.call, 0, 2, 5), 0, 0, 3, -2);
        firsts(cell, wrong(-2, 0, 4), wrong(-2, 0, -1), wrong(NONE_THERE, 0, 3), wrong(OUTSIDE, 1, 8), wrong(OUTSIDE, 1, -1));
        for (int i : new int[] {-1, 0, 1}) refuses(cell, new int[] {2, i, 0}, OUTSIDE);
        Row copy = new Row(32, "copy", RefusedTest::some, (x, v) -> x.copy(v[0], v[1], v[2], v[3], v[4]), 0, 2, 0, 1, 3);
        ends(copy, 1, 0, 5, OUTSIDE);
        ends(copy, 3, 0, 5, OUTSIDE);
        ends(copy, 4, 0, 6, OUTSIDE);
        ends(new Row(32, "copy", RefusedTest::some, copy.call, 0, 8, 0, 8, 0), 4, 0, 0, OUTSIDE);
        ends(new Row(32, "copy", RefusedTest::some, copy.call, 2, 0, 2, 0, 0), 4, 0, 0, OUTSIDE);
        ends(new Row(32, "copy", RefusedTest::some, copy.call, 2, 0, 2, 0, 0), 1, 0, 0, OUTSIDE);
        ends(new Row(32, "copy", RefusedTest::some, copy.call, 2, 0, 2, 0, 0), 3, 0, 0, OUTSIDE);
        firsts(copy, wrong(-2, 0, 4), wrong(-2, 0, -1), wrong(-2, 2, 4), wrong(-2, 2, -1), wrong(NONE_THERE, 0, 3), wrong(NONE_THERE, 2, 3),
            wrong(UNLIKE, 0, 1), wrong(UNLIKE, 2, 2), wrong(OUTSIDE, 1, 6), wrong(OUTSIDE, 1, -1), wrong(OUTSIDE, 3, 6), wrong(OUTSIDE, 3, -1),
            wrong(OUTSIDE, 4, 7), wrong(OUTSIDE, 4, -1));
    }

    private static void armsByAndTaken() {
        Row by = new Row(33, "armsBy", RefusedTest::some, (x, v) -> x.armsBy(v[0], v[1], v[2], v[3]), 0, 0, 1, 1);
        ends(by, 2, 0, 5, OUTSIDE);
        ends(new Row(33, "armsBy", RefusedTest::full, by.call, 0, 0, 1, 1), 3, 0, 6, -2);
        ends(new Row(33, "armsBy", RefusedTest::full, by.call, 0, 0, 1, 1), 2, 0, 37, OUTSIDE);
        firsts(by, wrong(-2, 0, 4), wrong(-2, 0, -1), wrong(-2, 1, 3), wrong(-2, 1, -1), wrong(-2, 3, 7), wrong(-2, 3, -1),
            wrong(NONE_THERE, 0, 3), wrong(UNLIKE, 0, 1), wrong(UNLIKE, 1, 2), wrong(OUTSIDE, 2, 6), wrong(OUTSIDE, 2, -1));
        refuses(by, with(by.taken, 1, 1), UNLIKE);
        refuses(by, new int[] {2, 2, 0, 1}, OUTSIDE);
        Row taken = new Row(34, "taken", RefusedTest::some, (x, v) -> x.taken(v[0], v[1]), 1, 2);
        asks(taken, 1);
        ends(new Row(34, "taken", RefusedTest::full, taken.call, 1, 2), 0, 0, 11, OUTSIDE);
        ends(taken, 1, 0, 6, -2);
        firsts(taken, wrong(-2, 1, 7), wrong(-2, 1, -1), wrong(OUTSIDE, 0, 12), wrong(OUTSIDE, 0, -1), wrong(NONE_THERE, 0, 4),
            wrong(NONE_THERE, 0, 8), wrong(NONE_THERE, 0, 10), wrong(UNLIKE, 1, 1), wrong(UNLIKE, 1, 6));
        refuses(taken, with(taken.taken, 0, 6), UNLIKE);
        for (int kind = 0; kind < 7; kind++) {
            refuses(taken, new int[] {8, kind}, NONE_THERE);
            unchanged(new Row(34, "taken", RefusedTest::some, taken.call, 0, kind));
            unchanged(new Row(34, "taken", RefusedTest::some, taken.call, 6, kind));
        }
    }

    // ---- no ARMS at all

    private static void nobody() {
        int[] v = {0, 0, 0, 0, 0};
        Supplier<ArmAgainstArm> state = ArmAgainstArm::new;
        refuses(new Row(6, "asks", state, (x, w) -> x.asks(0, 0, 0, 0, 0)), v, -5);
        refuses(new Row(8, "set", state, (x, w) -> x.set(0, 0, 0)), v, -5);
        refuses(new Row(9, "told", state, (x, w) -> x.told(0, 0)), v, -5);
        refuses(new Row(10, "match", state, (x, w) -> x.match(1, 0, 0)), v, -100);
        refuses(new Row(11, "wins", state, (x, w) -> x.wins(0, 1, 0)), v, -5);
        refuses(new Row(12, "fight", state, (x, w) -> x.fight(0, 1)), v, -100);
        refuses(new Row(13, "rest", state, (x, w) -> x.rest(24)), v, 0);
        refuses(new Row(14, "best", state, (x, w) -> x.best(0, 1, 0)), v, -100);
        refuses(new Row(15, "even", state, (x, w) -> x.even(0, 1)), v, -5);
        refuses(new Row(16, "line", state, (x, w) -> x.line(0, 1)), v, -100);
        refuses(new Row(17, "needs", state, (x, w) -> x.needs(0, 1)), v, -5);
        refuses(new Row(18, "row", state, (x, w) -> x.row(0, 0, 0)), v, -5);
        refuses(new Row(19, "beats", state, (x, w) -> x.beats(0)), v, -5);
        refuses(new Row(20, "rings", state, (x, w) -> x.rings(0)), v, 0);
        refuses(new Row(20, "rings", state, (x, w) -> x.rings(1)), v, -1);
        refuses(new Row(21, "judge", state, (x, w) -> x.judge(0, 0, 1)), v, NONE_THERE);
        refuses(new Row(22, "left", state, (x, w) -> x.left(0, 0, 1)), v, NONE_THERE);
        refuses(new Row(23, "whom", state, (x, w) -> x.whom(0, 0)), v, NONE_THERE);
        refuses(new Row(24, "laws", state, (x, w) -> x.laws(0, 0, 1)), v, NONE_THERE);
        refuses(new Row(25, "film", state, (x, w) -> x.film(0, 1, 0)), v, -5);
        refuses(new Row(26, "drawn", state, (x, w) -> x.drawn(0, 0, 1)), v, -5);
        refuses(new Row(27, "odds", state, (x, w) -> x.odds(0, 1, 1, 0)), v, ArmAgainstArm.NO);
        refuses(new Row(31, "cell", state, (x, w) -> x.cell(0, 0, 0)), v, NONE_THERE);
        refuses(new Row(32, "copy", state, (x, w) -> x.copy(0, 0, 0, 0, 0)), v, NONE_THERE);
        refuses(new Row(33, "armsBy", state, (x, w) -> x.armsBy(0, 0, 0, 0)), v, NONE_THERE);
        refuses(new Row(34, "taken", state, (x, w) -> x.taken(0, 0)), v, NONE_THERE);
    }
}
