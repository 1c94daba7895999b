import java.util.Random;

/** Long runs of calls, most of them as they should be, some odd; each answer is held against Model's. */
final class ModelTest {
    private static final Check c = new Check();
    private static final int[] ODD = {Integer.MIN_VALUE, Integer.MAX_VALUE, -1, -2, 5, 6, 7, 9, 10, 25, 31, 41, 99, 100, 100000};
    private static final String[] ONES = {"told", "more", "hold", "hard", "angle", "tenth", "0", "1", "2", "3", "10", "25", "77"};
    private static final String[] SIGNS = {" + ", " - ", "*", " < ", " = ", " and ", " or "};

    private final Random by;
    private final ArmAgainstArm x = new ArmAgainstArm();
    private final Model m = new Model();
    private final int heavy;
    private int calls;

    private ModelTest(int seed, int heaviest) {
        by = new Random(seed);
        heavy = heaviest;
    }

    public static void main(String[] args) {
        int runs = args.length > 1 ? Integer.parseInt(args[1]) : 60;
        int first = args.length > 2 ? Integer.parseInt(args[2]) : 1;
        for (int seed = first; seed < first + runs; seed++) new ModelTest(seed, seed % 4 == 0 ? 100 : 12).run();
        for (int seed = 0; seed < 4000; seed++) faults(seed);
        c.end();
    }

    private int in(int least, int most) {
        return by.nextInt(60) == 0 ? ODD[by.nextInt(ODD.length)] : least + by.nextInt(most - least + 1);
    }

    private int anArm() {
        return in(0, Math.max(0, (int) m.count(0) - 1));
    }

    private int other(int a) {
        int n = (int) m.count(0);
        return n < 2 || a < 0 || a >= n ? anArm() : by.nextInt(30) == 0 ? a : (a + 1 + by.nextInt(n - 1)) % n;
    }

    private int aPlan() {
        return in(0, 3) * 1000 + in(0, 3) * 100 + in(0, 3) * 10 + in(0, 3);
    }

    private void due(String call, long got, long want) {
        calls++;
        c.same("call " + calls + " " + call, got, want);
    }

    private void run() {
        int arms = by.nextInt(7);
        for (int i = 0; i < arms; i++) arm();
        for (int i = 0; i < 2; i++) law();
        while (calls < 500) {
            int a = anArm(), b = other(a);
            one(by.nextInt(34), a, b);
        }
    }

    private void arm() {
        int kind = in(0, 5), told = by.nextBoolean() ? in(30, 60) : in(0, 99), more = in(0, 9);
        due("arm " + kind + " " + told + " " + more, x.arm(kind, told, more), m.arm(kind, told, more));
    }

    private void law() {
        if (calls > 350) return;
        String text = text(by);
        for (int i = 0; i < text.length(); i += 5) {
            int[] v = new int[5];
            int n = Math.min(5, text.length() - i);
            for (int k = 0; k < n; k++) v[k] = text.charAt(i + k);
            due("feed", x.feed(n, v[0], v[1], v[2], v[3], v[4]), m.feed(n, v));
        }
        due("text " + text, x.text(), m.text());
        int t = in(0, (int) m.count(1) - 1);
        due("force " + t, x.force(t), m.force(t));
    }

    private void one(int call, int a, int b) {
        int what = in(0, 3), n = in(0, 40), ab = by.nextInt(20) == 0 ? in(0, 66) : 10 * a + b;
        boolean dear = by.nextInt(100) < heavy;
        switch (call) {
            case 0: due("count " + what, x.count(what), m.count(what)); break;
            case 1: if (by.nextInt(8) == 0) law(); break;
            case 2: if (by.nextInt(4) == 0) arm(); break;
            case 3: due("set " + a, x.set(a, 0, n % 26), m.set(a, 0, n % 26)); break;
            case 4: int plan = aPlan(); due("set " + a + " " + plan, x.set(a, 1, plan), m.set(a, 1, plan)); break;
            case 5: due("told " + a, x.told(a, what + 2), m.told(a, what + 2)); break;
            case 6: asks(a); break;
            case 7: due("match " + ab + " " + n + " " + what, x.match(ab, n, what), m.match(ab, n, what)); break;
            case 8: due("wins " + a + " " + b, x.wins(a, b, what / 2), m.wins(a, b, what / 2)); break;
            case 9: due("fight " + a + " " + b, x.fight(a, b), m.fight(a, b)); break;
            case 10: due("rest " + n, x.rest(n / 2), m.rest(n / 2)); break;
            case 11: if (dear) due("best " + a + " " + b + " " + what, x.best(a, b, what), m.best(a, b, what)); break;
            case 12: if (dear) due("even " + a + " " + b, x.even(a, b), m.even(a, b)); break;
            case 13: due("line " + a + " " + b, x.line(a, b), m.line(a, b)); break;
            case 14: due("needs " + a + " " + b, x.needs(a, b), m.needs(a, b)); break;
            case 15: row(a, what / 2); break;
            case 16: due("beats " + a, x.beats(a), m.beats(a)); break;
            case 17: if (dear) due("rings " + what, x.rings(what / 2), m.rings(what / 2)); break;
            default: further(call, a, b, ab);
        }
    }

    private void asks(int a) {
        int part = in(0, 2), holdHard = in(0, 24) * 10 + in(0, 3), angle = in(-30, 30), tenth = in(0, 40);
        due("asks", x.asks(part, a, holdHard, angle, tenth), m.asks(part, a, holdHard, angle, tenth));
    }

    private void row(int a, int what) {
        int set = in(0, 63) & (by.nextInt(10) == 0 ? -1 : (1 << m.count(0)) - 1) & ~(a >= 0 && a < 6 ? 1 << a : 0);
        due("row " + a + " " + set + " " + what, x.row(a, set, what), m.row(a, set, what));
    }

    private void further(int call, int a, int b, int ab) {
        int s = in(0, 3), n = in(0, 8), seed = in(0, 99999), part = in(0, 1);
        switch (call) {
            case 18: told(s, a, b); break;
            case 19: told(s, a, b); break;
            case 20: due("film " + s + " " + ab + " " + n, x.film(s, ab, n), m.film(s, ab, n)); told(s, a, b); break;
            case 21: due("film " + s + " " + ab + " " + n, x.film(s, ab, n), m.film(s, ab, n)); told(s, ab / 10, ab % 10); break;
            case 22: due("drawn " + seed, x.drawn(seed, a, b), m.drawn(seed, a, b)); break;
            case 23: due("odds " + seed + " " + n, x.odds(seed, n * 4 - 1, ab, part), m.odds(seed, n * 4 - 1, ab, part)); break;
            case 24: if (by.nextInt(3) == 0) due("image", x.image(), m.image()); break;
            case 25: if (by.nextInt(2) == 0) due("back", x.back(), m.back()); break;
            case 26: sheet(s, by.nextBoolean() ? n : in(0, 40)); break;
            case 27: cell(s); break;
            case 28: cell(s); break;
            case 29: copy(s); break;
            case 30: armsBy(s); break;
            case 31: due("taken", x.taken(a + 6 * part, n), m.taken(a + 6 * part, n)); break;
            case 32: due("taken " + a + n, x.taken(a, n), m.taken(a, n)); break;
            default: due("count", x.count(n), m.count(n));
        }
    }

    private void told(int s, int a, int b) {
        due("judge " + s + " " + a + " " + b, x.judge(s, a, b), m.judge(s, a, b));
        due("left " + s + " " + a + " " + b, x.left(s, a, b), m.left(s, a, b));
        due("whom " + s + " " + a, x.whom(s, a), m.whom(s, a));
        due("laws " + s + " " + a + " " + b, x.laws(s, a, b), m.laws(s, a, b));
    }

    private void sheet(int s, int n) {
        int sort = in(-1, 2);
        due("sheet " + s + " " + sort + " " + n, x.sheet(s, sort, n), m.sheet(s, sort, n));
    }

    private void cell(int s) {
        int i = in(0, 9), v = by.nextInt(4) == 0 ? by.nextInt() : in(-30, 60);
        due("cell " + s + " " + i + " " + v, x.cell(s, i, v), m.cell(s, i, v));
    }

    private void copy(int s) {
        int i = in(0, 4), other = in(0, 3), j = in(0, 4), n = in(0, 5);
        String call = "copy " + s + " " + i + " " + other + " " + j + " " + n;
        due(call, x.copy(s, i, other, j, n), m.copy(s, i, other, j, n));
    }

    private void armsBy(int s) {
        int sort = in(0, 2), at = in(0, 6), n = in(0, 3);
        due("armsBy " + s + " " + sort + " " + at + " " + n, x.armsBy(s, sort, at, n), m.armsBy(s, sort, at, n));
    }

    private static String one(Random by, int deep) {
        int pick = by.nextInt(deep > 3 ? 5 : 8);
        if (pick < 5) return ONES[by.nextInt(ONES.length)];
        if (pick == 5) return "-" + one(by, deep + 1);
        if (pick == 6) return "(" + sum(by, deep + 1) + ")";
        return "(not " + sum(by, deep + 2) + ")";
    }

    private static String sum(Random by, int deep) {
        StringBuilder e = new StringBuilder(one(by, deep));
        for (int i = by.nextInt(3); i > 0; i--) e.append(SIGNS[by.nextInt(SIGNS.length)]).append(one(by, deep));
        return e.toString();
    }

    private static String text(Random by) {
        return "force " + sum(by, 0) + (by.nextBoolean() ? "+told" : "*10") + ";spends " + sum(by, 1) + ";hurts " + sum(by, 1) + ";";
    }

    /** A text, most often spoilt at one or two places; its FAULT, or its worth. */
    private static void faults(int seed) {
        Random by = new Random(seed);
        StringBuilder s = new StringBuilder(text(by));
        String[] odd = {"not ", "(", ")", "-", "- -", "+", "<", "=", ";", "or ", " and ", "12345", "12", "told", "tol", " ", "$", "\n", "", "\t"};
        for (int i = by.nextInt(4); i > 0; i--) {
            int at = by.nextInt(s.length() + 1);
            if (by.nextInt(4) == 0) s.delete(at, Math.min(s.length(), at + 1 + by.nextInt(3)));
            else s.insert(at, odd[by.nextInt(odd.length)]);
        }
        if (by.nextInt(9) == 0) s.setLength(by.nextInt(s.length() + 1));
        if (s.length() > 160) s.setLength(160);
        ArmAgainstArm x = new ArmAgainstArm();
        Model m = new Model();
        for (int i = 0; i < s.length(); i++) {
            x.feed(1, s.charAt(i), 0, 0, 0, 0);
            m.feed(1, s.charAt(i));
        }
        long t = m.text();
        c.same("text '" + s + "'", x.text(), t);
        if (t < 0) return;
        x.arm(0, 37, 4);
        m.arm(0, 37, 4);
        x.force(1);
        m.force(1);
        for (int part = 0; part < 3; part++) {
            int holdHard = 10 * by.nextInt(25) + by.nextInt(4), angle = by.nextInt(61) - 30, tenth = by.nextInt(41);
            c.same("worth of '" + s + "'", x.asks(part, 0, holdHard, angle, tenth), m.asks(part, 0, holdHard, angle, tenth));
        }
    }
}
