import java.util.ArrayList;
import java.util.List;

/**
 * What ArmAgainstArm is to answer, done in another way: FAULTS by what stands open, an E by splitting its tokens, each
 * BOUT from its beginning on, all PLANS, all orders, rows as the host's own.
 */
final class Model {
    private static final int[] ABOVE = {-1, 0, 0, 1, 2, 0};
    private static final List<String> NAMES = List.of("told", "more", "hold", "hard", "angle", "tenth");
    private static final List<List<String>> LEVELS =
        List.of(List.of("or"), List.of("and"), List.of("<", "="), List.of("+", "-"), List.of("*"));

    private record One(int kind, int told, int more) { }
    private record Token(String word, int place) { }
    private record End(int angle, int holdA, int holdB, int hurt, int tenths) { }

    private final List<One> arms = new ArrayList<>();
    private final int[] hold = new int[6], plan = new int[6];
    private final List<List<List<Token>>> texts = new ArrayList<>();
    private int law;
    private final StringBuilder tape = new StringBuilder();
    private final long[][] sheets = new long[4][];
    private final int[] sorts = {-1, -1, -1, -1};
    private int[] imageHold, imagePlan;
    private int imageArms, imageLaw;

    Model() {
        tape.append("force told + hard * 6 + hold ; spends hard ; hurts 0 - angle ;");
        text();
    }

    long count(int what) {
        return what == 0 ? arms.size() : what == 1 ? texts.size() : what == 2 ? law : what == 3 ? tape.length() : -2;
    }

    long feed(int n, int... five) {
        if (n < 1 || n > 5) return -2;
        for (int v : five) if (v < 0 || v > 255) return -2;
        if (tape.length() + n > 160) return -4;
        for (int i = 0; i < n; i++) tape.append((char) five[i]);
        return tape.length();
    }

    // ---- texts

    private static List<Token> tokens(String s) {
        List<Token> all = new ArrayList<>();
        for (int i = 0; i < s.length(); ) {
            char ch = s.charAt(i);
            int from = i;
            if (ch == ' ' || ch == '\n') {
                i++;
                continue;
            }
            if (ch >= 'a' && ch <= 'z') while (i < s.length() && s.charAt(i) >= 'a' && s.charAt(i) <= 'z') i++;
            else if (ch >= '0' && ch <= '9') while (i < s.length() && s.charAt(i) >= '0' && s.charAt(i) <= '9') i++;
            else i++;
            all.add(new Token(s.substring(from, i), from));
        }
        return all;
    }

    private static boolean isNumber(String w) {
        return w.length() < 5 && w.charAt(0) >= '0' && w.charAt(0) <= '9';
    }

    private static boolean isName(String w) {
        return NAMES.contains(w);
    }

    private static boolean isPlan(int v) {
        return v >= 0 && v < 4000 && Integer.toString(v).chars().allMatch(d -> d < '4');
    }

    private static int hardAt(int plan, int tenth) {
        return Integer.toString(10000 + plan).charAt(1 + tenth / 10) - '0';
    }

    /** By what stands open, without a grammar: each ( keeps how many not and - stood ahead of it, and if < or = was. */
    private static int faultOf(String s) {
        List<Token> all = tokens(s);
        String[] keys = {"force", "spends", "hurts"};
        int part = 0, nots = 0, minuses = 0, open = 0;
        boolean key = true, value = false, not = false, compared = false;
        List<int[]> outer = new ArrayList<>();
        for (Token t : all) {
            String w = t.word;
            if (part == 3) return t.place;
            if (key) {
                if (!w.equals(keys[part])) return t.place;
                key = false;
                value = true;
                not = true;
            } else if (value) {
                if (w.equals("not") && not || w.equals("-") || w.equals("(")) {
                    if (open == 5) return t.place;
                    open++;
                    if (w.equals("not")) {
                        nots++;
                    } else if (w.equals("-")) {
                        minuses++;
                        not = false;
                    } else {
                        outer.add(new int[] {nots, minuses, compared ? 1 : 0});
                        nots = 0;
                        minuses = 0;
                        compared = false;
                        not = true;
                    }
                    continue;
                }
                if (!isNumber(w) && !isName(w)) return t.place;
                value = false;
                open -= minuses;
                minuses = 0;
            } else if (w.equals("+") || w.equals("-") || w.equals("*")) {
                value = true;
                not = false;
            } else if ((w.equals("<") || w.equals("=")) && !compared) {
                value = true;
                not = false;
                compared = true;
            } else if (w.equals("and") || w.equals("or")) {
                value = true;
                not = true;
                compared = false;
                open -= nots;
                nots = 0;
            } else if (w.equals(")") && !outer.isEmpty()) {
                int[] ahead = outer.remove(outer.size() - 1);
                open -= nots + 1 + ahead[1];
                nots = ahead[0];
                minuses = 0;
                compared = ahead[2] == 1;
            } else if (w.equals(";") && outer.isEmpty()) {
                open -= nots;
                nots = 0;
                compared = false;
                key = true;
                part++;
            } else {
                return t.place;
            }
        }
        return part == 3 ? -1 : s.length();
    }

    long text() {
        if (texts.size() == 6) return -4;
        String s = tape.toString();
        tape.setLength(0);
        int fault = faultOf(s);
        if (fault >= 0) return -100 - fault;
        List<List<Token>> parts = new ArrayList<>();
        List<Token> part = new ArrayList<>();
        for (Token t : tokens(s)) {
            if (t.word.equals(";")) {
                parts.add(part.subList(1, part.size()));
                part = new ArrayList<>();
            } else {
                part.add(t);
            }
        }
        texts.add(parts);
        return texts.size() - 1;
    }

    /** The last of these signs outside of any ( ), that stands between two values; -1: none. */
    private static int lastOf(List<Token> e, List<String> signs) {
        int deep = 0;
        for (int i = e.size() - 1; i > 0; i--) {
            String w = e.get(i).word;
            if (w.equals(")")) deep++;
            if (w.equals("(")) deep--;
            String ahead = e.get(i - 1).word;
            if (deep == 0 && signs.contains(w) && (ahead.equals(")") || isNumber(ahead) || isName(ahead))) return i;
        }
        return -1;
    }

    private static int worth(List<Token> e, int[] names) {
        for (int level = 0; level < 5; level++) {
            if (level == 2 && e.get(0).word.equals("not")) return worth(e.subList(1, e.size()), names) == 0 ? 1 : 0;
            int i = lastOf(e, LEVELS.get(level));
            if (i < 0) continue;
            int x = worth(e.subList(0, i), names), y = worth(e.subList(i + 1, e.size()), names);
            switch (e.get(i).word) {
                case "or": return x != 0 | y != 0 ? 1 : 0;
                case "and": return x != 0 & y != 0 ? 1 : 0;
                case "<": return x < y ? 1 : 0;
                case "=": return x == y ? 1 : 0;
                case "+": return x + y;
                case "-": return x - y;
                default: return x * y;
            }
        }
        String first = e.get(0).word;
        if (first.equals("-")) return -worth(e.subList(1, e.size()), names);
        if (first.equals("(")) return worth(e.subList(1, e.size() - 1), names);
        if (isNumber(first)) return Integer.parseInt(first);
        return names[NAMES.indexOf(first)];
    }

    private int says(int text, int part, int a, int holdNow, int hard, int angle, int tenth) {
        One one = arms.get(a);
        int v = worth(texts.get(text).get(part), new int[] {one.told, one.more, holdNow, hard, angle, tenth});
        return Math.max(0, Math.min(new int[] {200, 9, 100}[part], v));
    }

    long force(int t) {
        if (t < 0 || t >= texts.size()) return -2;
        int was = law;
        law = t;
        return was;
    }

    long asks(int part, int a, int holdHard, int angle, int tenth) {
        if (noArm(a)) return -5;
        boolean bad = part < 0 || part > 2 || holdHard < 0 || holdHard > 243 || holdHard % 10 > 3;
        if (bad || angle < -30 || angle > 30 || tenth < 0 || tenth > 40) return -7;
        return says(law, part, a, holdHard / 10, holdHard % 10, angle, tenth);
    }

    // ---- arms

    private boolean noArm(int a) {
        return a < 0 || a >= arms.size();
    }

    private boolean noTwo(int a, int b) {
        return noArm(a) || noArm(b) || a == b;
    }

    private boolean noTwo(int ab) {
        return ab < 0 || noTwo(ab / 10, ab % 10);
    }

    long arm(int kind, int told, int more) {
        if (kind < 0 || kind > 5 || told < 0 || told > 99 || more < 0 || more > 9) return -2;
        if (arms.size() == 6) return -4;
        hold[arms.size()] = 24;
        plan[arms.size()] = 1111;
        arms.add(new One(kind, told, more));
        return arms.size() - 1;
    }

    long set(int a, int what, int v) {
        if (noArm(a)) return -5;
        if (what == 0 && v >= 0 && v <= 24) {
            int was = hold[a];
            hold[a] = v;
            return was;
        }
        if (what == 1 && isPlan(v)) {
            int was = plan[a];
            plan[a] = v;
            return was;
        }
        return -7;
    }

    private int late(int a) {
        One one = arms.get(a);
        return one.kind != 2 && one.kind != 4 ? 2 : one.more >= 5 ? 0 : 1;
    }

    long told(int a, int what) {
        if (noArm(a)) return -5;
        if (what < 0 || what > 5) return -7;
        One one = arms.get(a);
        return new int[] {hold[a], plan[a], one.kind, one.told, one.more, late(a)}[what];
    }

    // ---- bouts

    private int forceOf(int text, int a, int holdNow, int hard, int angle, int tenth) {
        One one = arms.get(a);
        int f = says(text, 0, a, holdNow, hard, angle, tenth);
        if ((one.kind == 1 || one.kind == 3) && holdNow > 12) f += 2 * one.more;
        if (one.kind == 3 && angle > 0) f += angle / 3;
        if (one.kind == 4 && angle < 0) f += Math.abs(angle) / 2;
        if (one.kind == 5) f = angle + 2 * one.more < 0 ? f / 2 : f + 5;
        return Math.max(0, Math.min(400, f));
    }

    private int holdThen(int text, int a, int holdNow, int hard, int angle, int tenth) {
        if (hard == 0) return Math.min(24, holdNow + 1);
        int s = says(text, 1, a, holdNow, hard, angle, tenth);
        if (arms.get(a).kind == 3 && hard == 3) s++;
        if (arms.get(a).kind == 5) s *= 2;
        return Math.max(0, holdNow - Math.min(24, s));
    }

    /** A BOUT: from an ANGLE on, with these HOLDS, PLANS, and so many tenths later than else. */
    private End bout(int text, int[] two, int angle, int[] holds, int[] plans, int[] later, int n) {
        int h = holds[0], k = holds[1], hurt = 0, t = 0;
        for (; t < n && t < 40 && angle > -30 && angle < 30; t++) {
            int hardA = t < late(two[0]) + later[0] ? 0 : hardAt(plans[0], t);
            int hardB = t < late(two[1]) + later[1] ? 0 : hardAt(plans[1], t);
            int f = forceOf(text, two[0], h, hardA, angle, t), g = forceOf(text, two[1], k, hardB, -angle, t);
            hurt = Math.max(hurt, says(text, 2, two[0], h, hardA, angle, t));
            h = holdThen(text, two[0], h, hardA, angle, t);
            k = holdThen(text, two[1], k, hardB, -angle, t);
            angle = Math.max(-30, Math.min(30, angle + (f - g) / 10));
        }
        return new End(angle, h, k, hurt, t);
    }

    private End plain(int a, int b, int n) {
        return bout(law, new int[] {a, b}, 0, new int[] {hold[a], hold[b]}, new int[] {plan[a], plan[b]}, new int[2], n);
    }

    private End by(int a, int b, int holdA, int planA) {
        return bout(law, new int[] {a, b}, 0, new int[] {holdA, hold[b]}, new int[] {planA, plan[b]}, new int[2], 40);
    }

    long match(int ab, int n, int what) {
        if (noTwo(ab)) return -100;
        if (n < 0 || n > 40 || what < 0 || what > 3) return -200;
        End e = plain(ab / 10, ab % 10, n);
        return new int[] {e.angle, e.holdA, e.holdB, e.hurt}[what];
    }

    private static int winner(End e, int a, int b) {
        return e.angle > 0 ? a : e.angle < 0 ? b : -1;
    }

    long wins(int a, int b, int what) {
        if (noTwo(a, b)) return -5;
        if (what != 0 && what != 1) return -7;
        End e = plain(a, b, 40);
        return what == 0 ? winner(e, a, b) : Math.abs(e.angle) == 30 ? e.tenths : -1;
    }

    long fight(int a, int b) {
        if (noTwo(a, b)) return -100;
        End e = plain(a, b, 40);
        hold[a] = e.holdA;
        hold[b] = e.holdB;
        return e.angle;
    }

    long rest(int n) {
        if (n < 0 || n > 24) return -2;
        int all = 0;
        for (int i = 0; i < arms.size(); i++) all += hold[i] = Math.min(24, hold[i] + n);
        return all;
    }

    // ---- how hard

    private int[] bestOf(int a, int b) {
        int[] best = null;
        for (int p = 0; p <= 3333; p++) {
            if (!isPlan(p)) continue;
            End e = by(a, b, hold[a], p);
            if (best == null || e.angle > best[1] || e.angle == best[1] && e.holdA > best[2]) {
                best = new int[] {p, e.angle, e.holdA};
            }
        }
        return best;
    }

    long best(int a, int b, int what) {
        if (noTwo(a, b)) return -100;
        return what < 0 || what > 2 ? -200 : bestOf(a, b)[what];
    }

    long even(int a, int b) {
        if (noTwo(a, b)) return -5;
        return bestOf(a, b)[1] > plain(a, b, 40).angle || bestOf(b, a)[1] > plain(b, a, 40).angle ? 0 : 1;
    }

    long line(int a, int b) {
        if (noTwo(a, b)) return -100;
        for (int angle = -29; angle < 30; angle++) {
            End e = bout(law, new int[] {a, b}, angle, new int[] {hold[a], hold[b]}, new int[] {plan[a], plan[b]}, new int[2], 40);
            if (e.angle > 0) return angle;
        }
        return 30;
    }

    long needs(int a, int b) {
        if (noTwo(a, b)) return -5;
        for (int h = 0; h <= 24; h++) if (by(a, b, h, plan[a]).angle > 0) return h;
        return -1;
    }

    // ---- rows, rings

    private void orders(List<Integer> others, String order, List<String> all) {
        if (others.isEmpty()) all.add(order);
        for (Integer b : others) {
            List<Integer> rest = new ArrayList<>(others);
            rest.remove(b);
            orders(rest, order + b, all);
        }
    }

    long row(int a, int set, int what) {
        if (noArm(a)) return -5;
        if (set < 0 || set >= 1 << arms.size() || (set >> a & 1) == 1 || Integer.bitCount(set) > 4) return -7;
        if (what != 0 && what != 1) return -7;
        List<Integer> others = new ArrayList<>();
        for (int b = 0; b < 6; b++) if ((set >> b & 1) == 1) others.add(b);
        List<String> all = new ArrayList<>();
        orders(others, "", all);
        String longest = "";
        for (String order : all) {
            String won = "";
            int h = hold[a];
            for (char ch : order.toCharArray()) {
                End e = by(a, ch - '0', h, plan[a]);
                if (e.angle <= 0) break;
                won += (char) (ch + 1);
                h = Math.min(24, e.holdA + 4);
            }
            if (won.length() > longest.length()) longest = won;
        }
        return what == 0 ? longest.length() : longest.isEmpty() ? 0 : Integer.parseInt(longest);
    }

    long beats(int a) {
        if (noArm(a)) return -5;
        int bits = 0;
        for (int b = 0; b < arms.size(); b++) if (b != a && plain(a, b, 40).angle > 0) bits |= 1 << b;
        return bits;
    }

    long rings(int what) {
        if (what != 0 && what != 1) return -2;
        int found = 0, first = -1, n = arms.size();
        for (int r = 0; r < 216; r++) {
            int i = r / 36, j = r / 6 % 6, k = r % 6;
            if (i >= j || i >= k || j == k || j >= n || k >= n) continue;
            if ((beats(i) >> j & beats(j) >> k & beats(k) >> i & 1) == 0) continue;
            if (found++ == 0) first = 111 + 100 * i + 10 * j + k;
        }
        return what == 0 ? found : first;
    }

    // ---- told bouts

    private long toldRefused(int s) {
        return s < 0 || s > 3 ? -2 : sorts[s] < 0 ? -11 : sheets[s].length > 8 ? -2 : 0;
    }

    private int firstOther(int s, int text, int a, int b, int holdB) {
        for (int i = 0; i < sheets[s].length; i++) {
            End e = bout(text, new int[] {a, b}, 0, new int[] {hold[a], holdB}, new int[] {plan[a], plan[b]}, new int[2], 5 * i + 5);
            if (e.angle != sheets[s][i]) return i;
        }
        return -1;
    }

    long judge(int s, int a, int b) {
        if (toldRefused(s) != 0) return toldRefused(s);
        return noTwo(a, b) ? -5 : firstOther(s, law, a, b, hold[b]);
    }

    long left(int s, int a, int b) {
        if (toldRefused(s) != 0) return toldRefused(s);
        if (noTwo(a, b)) return -5;
        int bits = 0;
        for (int h = 0; h < 25; h++) if (firstOther(s, law, a, b, h) == -1) bits += 1 << h;
        return bits;
    }

    long whom(int s, int a) {
        if (toldRefused(s) != 0) return toldRefused(s);
        if (noArm(a)) return -5;
        int bits = 0;
        for (int b = 0; b < arms.size(); b++) if (a != b && firstOther(s, law, a, b, hold[b]) == -1) bits += 1 << b;
        return bits;
    }

    long laws(int s, int a, int b) {
        if (toldRefused(s) != 0) return toldRefused(s);
        if (noTwo(a, b)) return -5;
        int bits = 0;
        for (int t = 0; t < texts.size(); t++) if (firstOther(s, t, a, b, hold[b]) == -1) bits += 1 << t;
        return bits;
    }

    long film(int s, int ab, int n) {
        if (s < 0 || s > 3) return -2;
        if (noTwo(ab)) return -5;
        if (n < 0 || n > 8) return -7;
        sorts[s] = 2;
        sheets[s] = new long[n];
        for (int i = 0; i < n; i++) sheets[s][i] = plain(ab / 10, ab % 10, 5 * i + 5).angle;
        return n;
    }

    // ---- starts by lot

    private int drawnOf(int seed, int a, int b) {
        long first = (seed + 1L) * 48271 % 2147483647, second = first * 48271 % 2147483647;
        int[] later = {(int) (first & 3), (int) (second & 3)};
        return winner(bout(law, new int[] {a, b}, 0, new int[] {hold[a], hold[b]}, new int[] {plan[a], plan[b]}, later, 40), a, b);
    }

    long drawn(int seed, int a, int b) {
        if (noTwo(a, b)) return -5;
        return seed < 0 || seed > 99999 ? -7 : drawnOf(seed, a, b);
    }

    long odds(int seed, int seeds, int ab, int part) {
        if (seed < 0 || seed > 99999 || seeds < 1 || seeds > 30 || noTwo(ab) || part != 0 && part != 1) return -(1L << 62);
        int won = 0;
        for (int i = 0; i < seeds; i++) if (drawnOf(seed + i, ab / 10, ab % 10) == ab / 10) won++;
        int x = won, y = seeds;
        while (x != 0) {
            int z = y % x;
            y = x;
            x = z;
        }
        return (part == 0 ? won : seeds) / y;
    }

    long image() {
        imageHold = hold.clone();
        imagePlan = plan.clone();
        imageLaw = law;
        return imageArms = arms.size();
    }

    long back() {
        if (imageHold == null) return -3;
        while (arms.size() > imageArms) arms.remove(arms.size() - 1);
        System.arraycopy(imageHold, 0, hold, 0, 6);
        System.arraycopy(imagePlan, 0, plan, 0, 6);
        law = imageLaw;
        return arms.size();
    }

    // ---- the host

    long sheet(int s, int sort, int n) {
        if (s < 0 || s > 3 || sort < -1 || sort > 2 || sort != -1 && n > 40) return -2;
        if (sort != -1 && n < 0) return -14;
        sorts[s] = sort;
        sheets[s] = sort == -1 ? null : new long[n];
        return 1;
    }

    long cell(int s, int i, int v) {
        if (s < 0 || s > 3) return -2;
        if (sheets[s] == null) return -11;
        if (i < 0 || i >= sheets[s].length) return -12;
        sheets[s][i] = sorts[s] == 0 ? (byte) v : sorts[s] == 1 ? (short) v : v;
        return 1;
    }

    long copy(int s, int i, int other, int j, int n) {
        if (s < 0 || s > 3 || other < 0 || other > 3) return -2;
        if (sheets[s] == null || sheets[other] == null) return -11;
        if (sorts[s] != sorts[other]) return -13;
        try {
            System.arraycopy(sheets[s], i, sheets[other], j, n);
        } catch (IndexOutOfBoundsException e) {
            return -12;
        }
        return n;
    }

    long armsBy(int s, int sort, int at, int n) {
        if (s < 0 || s > 3 || sort < 0 || sort > 2 || n < 0 || n > 6) return -2;
        if (sheets[s] == null) return -11;
        if (sorts[s] != sort) return -13;
        int came = 0;
        for (long k = 0; k < n; k++) {
            long from = at + 3 * k;
            if (from < 0 || from + 2 >= sheets[s].length) return -12;
            int i = (int) from;
            if (arm((int) sheets[s][i], (int) sheets[s][i + 1], (int) sheets[s][i + 2]) >= 0) came++;
        }
        return came;
    }

    long taken(int i, int kind) {
        if (kind < 0 || kind > 6) return -2;
        if (i < 0 || i > 11) return -12;
        int a = i % 6;
        if (noArm(a) || i > 5 && hold[a] == 0) return -11;
        if (i > 5) return kind == 6 ? hold[a] : -13;
        for (int is = arms.get(a).kind; is >= 0; is = ABOVE[is]) if (is == kind) return a;
        return -13;
    }
}
