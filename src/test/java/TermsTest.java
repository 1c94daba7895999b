/** The sentences of "Terms", in their order, each at its bounds; KINDS and BOUTS reckoned to the one, not to the tenth. */
final class TermsTest {
    private static final Check c = new Check();

    public static void main(String[] args) {
        armsSix();
        plans();
        holds();
        kindsForce();
        kindsForceEnds();
        kindsSpend();
        kindsLate();
        firstLaw();
        lawEnds();
        boutTenths();
        boutParts();
        boutAngle();
        boutHold();
        boutHurt();
        boutWon();
        lots();
        images();
        sheets();
        answersOfNone();
        c.end();
    }

    private static ArmAgainstArm of(String law, int... told) {
        ArmAgainstArm x = Check.under(law);
        for (int t : told) x.arm(0, t, 0);
        return x;
    }

    // ---- 1: ARMS, HOLD, PLANS

    private static void armsSix() {
        c.terms("ARMS are numbered from 0 on, 6 at most");
        ArmAgainstArm x = new ArmAgainstArm();
        for (int n = 0; n < 6; n++) {
            c.same("count", x.count(0), n);
            c.same("the next is none", x.told(n, 2), -5);
            c.same("its number", x.arm(n, 99, 9), n);
            c.same("is there", x.told(n, 2), n);
        }
        c.same("a seventh", x.arm(0, 0, 0), -4);
        c.same("six", x.count(0), 6);
        c.same("none has 6", x.told(6, 2), -5);
        x = new ArmAgainstArm();
        int[] told = {0, 1, 98, 99};
        for (int i = 0; i < 4; i++) c.same("TOLD " + told[i], x.told(x.arm(0, told[i], 0), 3), told[i]);
        x = new ArmAgainstArm();
        int[] more = {0, 1, 8, 9};
        for (int i = 0; i < 4; i++) c.same("MORE " + more[i], x.told(x.arm(0, 0, more[i]), 4), more[i]);
    }

    private static void plans() {
        c.terms("A PLAN: how HARD (0 .. 3) in each of four PARTS (1 each at first), as digits (0 .. 3333)");
        ArmAgainstArm x = null;
        int was = 1111;
        for (int v = -300; v < 4500; v++) {
            if ((v + 300) % 400 == 0) {
                x = of("force 0;spends 0;hurts 0;", 0);
                was = 1111;
            }
            boolean taken = v >= 0 && v / 1000 < 4 && v / 100 % 10 < 4 && v / 10 % 10 < 4 && v % 10 < 4;
            c.same("PLAN " + v, x.set(0, 1, v), taken ? was : -7);
            if (taken) was = v;
        }
        c.terms("that of PART 0 the highest");
        x = of("force 0;spends 0;hurts hard*10;", 0, 0);
        int[][] rows = {{3000, 10}, {300, 20}, {30, 30}, {3, 40}};
        for (int[] row : rows) {
            x.set(0, 1, row[0]);
            c.same("not ahead of its PART", x.match(1, Math.max(2, row[1] - 10), 3), 0);
            c.same("in its PART", x.match(1, row[1], 3), 30);
        }
    }

    private static void holds() {
        c.terms("HOLD (0 .. 24; 24 at first)");
        ArmAgainstArm x = of("force 0;spends 9;hurts 0;", 0, 0);
        c.same("at first", x.told(0, 0), 24);
        int was = 24;
        for (int v = -3; v < 30; v++) {
            boolean taken = v >= 0 && v < 25;
            c.same("HOLD " + v, x.set(0, 0, v), taken ? was : -7);
            if (taken) was = v;
        }
        c.same("as set last", x.told(0, 0), 24);
        c.same("a bout truly: 24, 24, 15, 6, 0, 0 ..", x.fight(0, 1), 0);
        c.same("0 at least", x.told(0, 0), 0);
        c.same("24 more", x.rest(24), 48);
        c.same("24 at most", x.rest(1), 48);
    }

    // ---- 1: KINDS

    /**
     * FORCE, to the one, of an ARM that the law says so much of, with an ANGLE and a HOLD: two tenths bring the ANGLE,
     * at the third the other one (an ARM) presses as much less as moves ANGLE by just `by`.
     */
    private static void forceIs(int kind, int more, int angle, int hold, int said, int due) {
        int by = due > 200 ? 3 : 1;
        String what = "FORCE of KIND " + kind + " MORE " + more + " ANGLE " + angle + " HOLD " + hold + " said " + said;
        c.same(what + " is " + due + " at least", moved(kind, more, angle, hold, said, due - 10 * by), by);
        c.same(what + " is " + due + " at most", moved(kind, more, angle, hold, said, due - 10 * by + 1), by - 1);
    }

    /** How far ANGLE is moved by the third tenth, if the other one's FORCE is as told; -99: it isn't brought there. */
    private static int moved(int kind, int more, int angle, int hold, int said, int other) {
        int first = angle / 2, second = angle - first;
        // What the KIND has by itself while ANGLE is brought is less than 30.
        for (int less = 0; less < 30; less += 3) {
            String mine = pressed(10 * Math.max(0, first), 10 * Math.max(0, second), said);
            String its = pressed(less - 10 * Math.min(0, first), less - 10 * Math.min(0, second), other);
            ArmAgainstArm x = Check.under("force (told=1)*(" + mine + ")+(told=0)*(" + its + ");spends 0;hurts 0;");
            x.arm(kind, 1, more);
            x.arm(0, 0, 0);
            x.set(0, 0, hold - 2);
            if (x.match(1, 2, 0) == angle) return x.match(1, 3, 0) - angle;
        }
        return -99;
    }

    private static String pressed(int first, int second, int third) {
        return "(tenth=0)*" + first + "+(tenth=1)*" + second + "+(tenth=2)*" + third;
    }

    private static void kindsForce() {
        c.terms("0 ARM: that");
        for (int angle : new int[] {-26, -1, 0, 1, 26}) forceIs(0, 9, angle, 24, 100, 100);
        c.terms("1 STRONG: FORCE twice MORE more, if HOLD is above 12");
        for (int angle : new int[] {-26, -1, 0, 1, 26}) forceIs(1, 4, angle, 13, 100, 108);
        forceIs(1, 4, 0, 12, 100, 100);
        forceIs(1, 4, 0, 24, 100, 108);
        forceIs(1, 4, 0, 2, 100, 100);
        forceIs(1, 0, 0, 24, 100, 100);
        forceIs(1, 1, 0, 24, 100, 102);
        c.terms("3 TOP (a STRONG): FORCE a third (cut) of ANGLE more, if that is above 0");
        int[][] top = {{-26, 0}, {-3, 0}, {-1, 0}, {0, 0}, {1, 0}, {2, 0}, {3, 1}, {5, 1}, {6, 2}, {26, 8}, {27, 9}, {28, 9}};
        for (int[] row : top) {
            forceIs(3, 0, row[0], 24, 100, 100 + row[1]);
            forceIs(3, 4, row[0], 12, 100, 100 + row[1]);
            forceIs(3, 4, row[0], 13, 100, 108 + row[1]);
        }
        c.terms("4 HOOK (a QUICK): FORCE half (cut) as much more as ANGLE is below 0");
        int[][] hook = {{26, 0}, {2, 0}, {1, 0}, {0, 0}, {-1, 0}, {-2, 1}, {-3, 1}, {-4, 2}, {-27, 13}, {-28, 14}, {-29, 14}};
        for (int[] row : hook) forceIs(4, 9, row[0], 24, 100, 100 + row[1]);
        c.terms("5 HEAVY: FORCE half (cut), if ANGLE is below twice MORE below 0, else 5 more");
        int[][] heavy = {{0, 0}, {0, 1}, {1, -2}, {1, -1}, {4, -8}, {4, 0}, {9, -18}, {9, 26}, {0, 26}};
        for (int[] row : heavy) forceIs(5, row[0], row[1], 24, 100, 105);
        int[][] half = {{0, -1}, {0, -28}, {1, -3}, {4, -9}, {9, -19}, {9, -29}};
        for (int[] row : half) {
            forceIs(5, row[0], row[1], 24, 100, 50);
            forceIs(5, row[0], row[1], 24, 101, 50);
        }
        c.terms("2 QUICK (an ARM): FORCE as of the KIND above");
        for (int angle : new int[] {-26, -1, 0, 1, 26}) forceIs(2, 9, angle, 24, 100, 100);
    }

    private static void kindsForceEnds() {
        c.terms("FORCE 0 .. 400");
        forceIs(0, 0, 0, 24, 200, 200);
        forceIs(0, 0, 0, 24, 201, 200);
        forceIs(1, 9, 0, 24, 200, 218);
        forceIs(1, 9, 0, 12, 200, 200);
        forceIs(3, 4, 24, 24, 200, 216);
        forceIs(4, 9, -28, 24, 200, 214);
        forceIs(5, 0, 0, 24, 200, 205);
        forceIs(5, 0, -1, 24, 200, 100);
        // Said below 0 is 0 ahead of what the KIND has: the other one's 0 against it.
        int[][] rows = {{0, 0}, {1, 18}, {2, 0}, {3, 18}, {4, 0}, {5, 5}};
        for (int[] row : rows) {
            ArmAgainstArm x = Check.under("force 0-99*(told=1)+(told=2)*10;spends 0;hurts 0;");
            x.arm(row[0], 1, 9);
            x.arm(0, 0, 0);
            x.arm(0, 2, 0);
            c.same("KIND " + row[0] + " of 0", x.match(1, 1, 0), row[1] / 10);
            c.same("KIND " + row[0] + " of 0 against 10", x.match(20, 1, 0), (10 - row[1]) / 10);
        }
    }

    private static void kindsSpend() {
        c.terms("what it SPENDS; TOP: SPENDS 1 more, if HARD is 3; HEAVY: SPENDS twice as much; SPENDS 0 .. 24");
        int[] said = {0, 1, 8, 9, 10};
        for (int kind = 0; kind < 6; kind++) {
            for (int hard = 0; hard < 4; hard++) {
                for (int s : said) {
                    int due = Math.min(9, s);
                    if (kind == 3 && hard == 3) due++;
                    if (kind == 5) due *= 2;
                    ArmAgainstArm x = Check.under("force 0;spends " + s + ";hurts 0;");
                    x.arm(kind, 0, 5);
                    x.arm(0, 0, 0);
                    x.set(0, 1, 1111 * hard);
                    int late = x.told(0, 5);
                    String what = "KIND " + kind + " HARD " + hard + " said " + s;
                    c.same(what, x.match(1, late + 1, 1), hard == 0 ? 24 : 24 - due);
                    c.same(what + ", of b", x.match(10, late + 1, 2), hard == 0 ? 24 : 24 - due);
                }
            }
        }
        ArmAgainstArm x = of("force 0;spends 0-1;hurts 0;", 0, 0);
        c.same("0 at least", x.match(1, 3, 1), 24);
    }

    private static void kindsLate() {
        c.terms("LATE: ARM 2; QUICK 1 and MORE by 5 (cut) less (0 at least)");
        for (int kind = 0; kind < 6; kind++) {
            for (int more = 0; more < 10; more++) {
                ArmAgainstArm x = Check.under("force hard*10;spends 0;hurts 0;");
                x.arm(kind, 0, more);
                x.arm(0, 0, 0);
                x.set(1, 1, 0);
                int due = kind != 2 && kind != 4 ? 2 : more < 5 ? 1 : 0;
                c.same("KIND " + kind + " MORE " + more, x.told(0, 5), due);
                if (kind == 1 || kind == 3 || kind == 5) continue;
                c.same("presses 0 HARD till then", x.match(1, due, 0), 0);
                c.same("presses from then on", x.match(1, due + 1, 0), 1);
            }
        }
    }

    // ---- 1: TEXT 0, THE LAW

    private static void firstLaw() {
        c.terms("TEXT 0, at first, and THE LAW: force told + hard * 6 + hold ; spends hard ; hurts 0 - angle ;");
        for (int told : new int[] {0, 50, 99}) {
            ArmAgainstArm x = new ArmAgainstArm();
            x.arm(5, told, 9);
            for (int hold = 0; hold < 25; hold += 3) {
                for (int hard = 0; hard < 4; hard++) {
                    c.same("force", x.asks(0, 0, 10 * hold + hard, -13, 7), told + 6 * hard + hold);
                    c.same("spends", x.asks(1, 0, 10 * hold + hard, -13, 7), hard);
                }
            }
            for (int angle = -30; angle <= 30; angle++) c.same("hurts", x.asks(2, 0, 243, angle, 40), Math.max(0, -angle));
        }
    }

    private static void lawEnds() {
        c.terms("force 0 .. 200, spends 0 .. 9, hurts 0 .. 100, else the bound");
        int[] greatest = {200, 9, 100};
        for (int part = 0; part < 3; part++) {
            int most = greatest[part];
            int[] said = {-9999, -1, 0, 1, most - 1, most, most + 1, 9999};
            for (int v : said) {
                String e = v < 0 ? "0-" + -v : "" + v;
                ArmAgainstArm x = of("force " + e + ";spends " + e + ";hurts " + e + ";", 0);
                c.same("part " + part + " of " + e, x.asks(part, 0, 0, 0, 0), Math.max(0, Math.min(most, v)));
            }
        }
    }

    // ---- 2: A BOUT

    private static void boutTenths() {
        c.terms("Tenth t (0 .. 39)");
        for (int t : new int[] {0, 1, 38, 39}) {
            ArmAgainstArm x = of("force (told=1)*(tenth=" + t + ")*50;spends 0;hurts 0;", 1, 0);
            c.same("not yet behind " + t, x.match(1, t, 0), 0);
            c.same("behind one more", x.match(1, t + 1, 0), 5);
            c.same("at the end", x.match(1, 40, 0), 5);
        }
        c.same("no tenth 40", of("force (told=1)*(39<tenth)*50;spends 0;hurts 0;", 1, 0).match(1, 40, 0), 0);
        c.same("none ahead of 0", of("force (told=1)*(tenth<0)*50;spends 0;hurts 0;", 1, 0).match(1, 40, 0), 0);
    }

    private static void boutParts() {
        c.terms("as HARD as its PLAN says of PART t by 10 (cut), but 0, if t is less than it is LATE");
        ArmAgainstArm x = of("force 0;spends hard;hurts hard*10;", 0, 0);
        x.set(0, 1, 3210);
        x.set(1, 1, 123);
        int[][] tenths = {{2, 0, 0}, {3, 30, 0}, {10, 30, 0}, {11, 30, 10}, {20, 30, 10}, {21, 30, 20}, {30, 30, 20}, {31, 30, 30}, {40, 30, 30}};
        for (int[] row : tenths) {
            c.same("HURT of a behind " + row[0], x.match(1, row[0], 3), row[1]);
            c.same("HURT of b behind " + row[0], x.match(10, row[0], 3), row[2]);
        }
        int[] hold = new int[41];
        hold[0] = 24;
        for (int t = 0; t < 40; t++) {
            int hard = t < 2 ? 0 : 3 - t / 10;
            hold[t + 1] = Math.max(0, Math.min(24, hard == 0 ? hold[t] + 1 : hold[t] - hard));
            c.same("HOLD behind " + (t + 1), x.match(1, t + 1, 1), hold[t + 1]);
        }
    }

    private static void boutAngle() {
        c.terms("ANGLE then is more by a tenth (cut) of a's FORCE less b's (-30 .. 30, else the bound)");
        int[][] rows = {{0, 0}, {9, 0}, {10, 1}, {19, 1}, {20, 2}, {289, 28}, {290, 29}, {299, 29}, {300, 30}, {301, 30}, {400, 30}};
        for (int[] row : rows) {
            int first = Math.min(200, row[0]), then = row[0] - first;
            ArmAgainstArm x = of("force (told=1)*((tenth=0)*" + first + "+(tenth=1)*" + then + ");spends 0;hurts 0;", 1, 0);
            c.same("by " + row[0], x.match(1, 2, 0), row[1]);
            c.same("of b, by " + row[0], x.match(10, 2, 0), -row[1]);
        }
        c.terms("as long as ANGLE is within -29 .. 29");
        ArmAgainstArm x = of("force (told=1)*((tenth=0)*200+(tenth=1)*90)+(told=0)*(tenth=2)*90;spends 0;hurts tenth;", 1, 0);
        c.same("29 behind two", x.match(1, 2, 0), 29);
        c.same("goes on from 29", x.match(1, 3, 0), 20);
        c.same("goes on from -29", x.match(10, 3, 0), -20);
        c.same("to its end", x.match(1, 40, 3), 39);
        c.same("nobody is DOWN at 29", x.wins(0, 1, 1), -1);
        x = of("force (told=1)*((tenth=0)*200+(tenth=1)*100)+(told=0)*(tenth=2)*90;spends 0;hurts tenth;", 1, 0);
        c.same("ends at 30", x.match(1, 3, 0), 30);
        c.same("ends at -30", x.match(10, 3, 0), -30);
        c.same("no tenth more", x.match(1, 40, 3), 1);
        c.same("no tenth more, HOLD", x.match(1, 40, 1), 24);
        c.same("DOWN behind two", x.wins(0, 1, 1), 2);
        c.same("DOWN behind two, told by the other", x.wins(1, 0, 1), 2);
        c.terms("it is a's own; b's own is as much with the other sign");
        x = of("force (told=1)*(tenth=0)*70;spends 0;hurts 50+angle;", 1, 0);
        c.same("a's", x.match(1, 2, 3), 57);
        c.same("b's", x.match(10, 2, 3), 50);
        x = of("force (told=1)*(tenth=0)*70;spends 0;hurts 50-angle;", 1, 0);
        c.same("a's", x.match(1, 2, 3), 50);
        c.same("b's", x.match(10, 2, 3), 57);
    }

    private static void boutHold() {
        c.terms("each has as much less HOLD as it SPENDS, but 1 more, if it presses 0 HARD (0 .. 24, else the bound)");
        int[][] rows = {{0, 1, 0, 0}, {3, 1, 3, 0}, {4, 1, 3, 1}, {2, 1, 3, 0}, {24, 1, 3, 21}, {24, 0, 3, 24}, {23, 0, 3, 24}, {22, 0, 3, 23}, {0, 0, 3, 1}};
        for (int[] row : rows) {
            ArmAgainstArm x = Check.under("force 0;spends " + row[2] + ";hurts 0;");
            x.arm(2, 0, 9);
            x.arm(2, 0, 9);
            x.set(0, 0, row[0]);
            x.set(0, 1, 1000 * row[1]);
            c.same("HOLD " + row[0] + " HARD " + row[1] + " SPENDS " + row[2], x.match(1, 1, 1), row[3]);
            c.same("of b", x.match(10, 1, 2), row[3]);
        }
    }

    private static void boutHurt() {
        c.terms("HURT of a: the greatest hurts of it at any tenth (0: there is none)");
        ArmAgainstArm x = of("force 0;spends 0;hurts 30-tenth;", 0, 0);
        c.same("no tenth", x.match(1, 0, 3), 0);
        c.same("one", x.match(1, 1, 3), 30);
        c.same("the greatest, not the last", x.match(1, 40, 3), 30);
        x = of("force 0;spends 0;hurts 0;", 0, 0);
        c.same("none at all", x.match(1, 40, 3), 0);
        x = of("force 0;spends 0;hurts 70+tenth;", 0, 0);
        c.same("100 at most", x.match(1, 40, 3), 100);
        c.same("99", x.match(1, 30, 3), 99);
        c.same("100", x.match(1, 31, 3), 100);
    }

    private static void boutWon() {
        c.terms("One is DOWN, as ANGLE is 30, or -30. a WINS, if ANGLE is above 0 at the end, b, if it is below");
        int[][] rows = {{0, -1}, {9, -1}, {10, 0}, {19, 0}, {200, 0}};
        for (int[] row : rows) {
            ArmAgainstArm x = of("force (told=1)*(tenth=39)*" + row[0] + ";spends 0;hurts 0;", 1, 0);
            c.same("by " + row[0], x.wins(0, 1, 0), row[1]);
            c.same("by " + row[0] + ", told by the other", x.wins(1, 0, 0), row[1]);
            c.same("nobody DOWN", x.wins(0, 1, 1), -1);
        }
        ArmAgainstArm x = of("force (told=1)*(tenth=0)*90+(told=0)*(tenth=39)*90;spends 0;hurts 0;", 1, 0);
        c.same("9, then 0 at the end: neither", x.wins(0, 1, 0), -1);
        x = of("force (told=1)*(tenth=0)*90+(told=0)*(tenth=39)*100;spends 0;hurts 0;", 1, 0);
        c.same("9, then -1 at the end: b", x.wins(0, 1, 0), 1);
    }

    // ---- 2: DRAWN, AN IMAGE, SHEETS, what -1 is

    private static void lots() {
        c.terms("DRAWN by a SEED (0 .. 99999): a is a LOT modulo 4 tenths more LATE, b a LOT modulo 4");
        for (int seed : new int[] {0, 1, 2, 3, 4, 5, 6, 7, 49999, 99997, 99998, 99999}) {
            long first = (seed + 1L) * 48271 % 2147483647, second = first * 48271 % 2147483647;
            // Neither is LATE by itself: who is less late presses alone for as long.
            int due = Long.compare(second % 4, first % 4);
            ArmAgainstArm x = quick();
            c.same("seed " + seed, x.drawn(seed, 0, 1), due == 0 ? -1 : due > 0 ? 0 : 1);
        }
        c.terms("LOTS of SEED 0: 48271 (3), then 182605794 (2)");
        ArmAgainstArm x = quick();
        c.same("b presses one tenth ahead of a", x.drawn(0, 0, 1), 1);
        c.same("a presses one tenth ahead of b", x.drawn(0, 1, 0), 0);
        c.terms("SEED and each 1 more (they may pass 99999)");
        for (int seeds = 1; seeds <= 30; seeds++) {
            for (int seed : new int[] {99999 - seeds + 1, 99999}) {
                int won = 0;
                for (int i = 0; i < seeds; i++) {
                    long first = (seed + i + 1L) * 48271 % 2147483647, second = first * 48271 % 2147483647;
                    if (first % 4 < second % 4) won++;
                }
                int common = java.math.BigInteger.valueOf(won).gcd(java.math.BigInteger.valueOf(seeds)).intValue();
                c.same(seeds + " seeds from " + seed, x.odds(seed, seeds, 1, 0), won / common);
                c.same(seeds + " seeds from " + seed, x.odds(seed, seeds, 1, 1), seeds / common);
            }
        }
    }

    private static ArmAgainstArm quick() {
        ArmAgainstArm x = Check.under("force hard*10;spends 0;hurts 0;");
        x.arm(2, 0, 9);
        x.arm(4, 0, 9);
        return x;
    }

    private static void images() {
        c.terms("AN IMAGE keeps HOLD, PLANS, how many ARMS there are, THE LAW");
        for (int n = 0; n <= 6; n++) {
            ArmAgainstArm x = new ArmAgainstArm();
            c.same("none yet", x.back(), -3);
            for (int a = 0; a < n; a++) {
                x.arm(a, a, a);
                x.set(a, 0, 24 - a);
                x.set(a, 1, 3333 - 1111 * (a % 4));
            }
            c.same("an image of " + n, x.image(), n);
            x.force(Check.text(x, "force 1;spends 2;hurts 3;"));
            while (x.count(0) < 6) x.arm(5, 9, 9);
            for (int a = 0; a < 6; a++) {
                x.set(a, 0, 0);
                x.set(a, 1, 0);
            }
            c.same("back to " + n, x.back(), n);
            c.same("THE LAW", x.count(2), 0);
            for (int a = 0; a < n; a++) {
                c.same("HOLD of " + a, x.told(a, 0), 24 - a);
                c.same("PLAN of " + a, x.told(a, 1), 3333 - 1111 * (a % 4));
            }
            c.same("those that came since are none", x.told(n, 0), -5);
            c.same("a new one has its number", x.arm(1, 77, 7), n == 6 ? -4 : n);
            if (n < 6) c.same("and 24", x.told(n, 0), 24);
            if (n < 6) c.same("and 1111", x.told(n, 1), 1111);
        }
    }

    private static void sheets() {
        c.terms("SHEETS 0 .. 3 are rows of numbers, or missing (as all are at first): 40 at most");
        for (int s = 0; s < 4; s++) {
            ArmAgainstArm x = new ArmAgainstArm();
            c.same("missing at first", x.cell(s, 0, 0), -11);
            for (int sort = 0; sort < 3; sort++) {
                for (int n : new int[] {0, 1, 39, 40}) {
                    c.same("a row of " + n, x.sheet(s, sort, n), 1);
                    c.same("its last place", x.cell(s, n - 1, 0), n == 0 ? -12 : 1);
                    c.same("none behind", x.cell(s, n, 0), -12);
                    c.same("of the sort", x.armsBy(s, sort, 0, 0), 0);
                    c.same("not of the next", x.armsBy(s, (sort + 1) % 3, 0, 0), -13);
                }
                c.same("missing", x.sheet(s, -1, 41), 1);
                c.same("missing", x.cell(s, 0, 0), -11);
                c.same("missing, of any sort", x.armsBy(s, sort, 0, 0), -11);
            }
        }
        c.terms("of bytes, shorts its lowest 8, 16 bits");
        long[] values = {-128, 127, 128, 255, 256, -129, -256, 32767, 32768, 65535, 65536, -32768, -32769, Integer.MIN_VALUE, Integer.MAX_VALUE};
        for (long v : values) for (int sort = 0; sort < 3; sort++) kept(sort, (int) v);
        for (int v = -30; v <= 30; v++) {
            for (int sort = 0; sort < 3; sort++) {
                kept(sort, v);
                kept(sort, v + 256);
                kept(sort, v - 256);
                kept(sort, v + 65536);
                kept(sort, v - 65536);
            }
        }
    }

    /** Whether a number is kept as ANGLE within -30 .. 30, and which, by a bout that moves by so much in its first tenth. */
    private static void kept(int sort, int v) {
        int due = sort == 0 ? (byte) v : sort == 1 ? (short) v : v;
        int by = due < -30 || due > 30 ? 0 : due;
        String e = "(told=" + (by < 0 ? 0 : 1) + ")*((tenth=0)*" + Math.min(200, 10 * Math.abs(by)) + "+(tenth=1)*" + Math.max(0, 10 * Math.abs(by) - 200) + ")";
        ArmAgainstArm x = of("force " + e + ";spends 0;hurts 0;", 1, 0);
        x.sheet(0, sort, 1);
        c.same("cell", x.cell(0, 0, v), 1);
        c.same("sort " + sort + " keeps " + v + " as " + due, x.judge(0, 0, 1), by == due ? -1 : 0);
    }

    private static void answersOfNone() {
        c.terms("a -1 that is an answer comes behind the refusal of a number");
        ArmAgainstArm x = of("force 0;spends 0;hurts 0;", 0, 0);
        x.sheet(0, 2, 0);
        c.same("wins", x.wins(0, 1, 0), -1);
        c.same("wins", x.wins(0, 1, 1), -1);
        c.same("wins, what 2", x.wins(0, 1, 2), -7);
        c.same("needs", x.needs(0, 1), -1);
        c.same("needs, no such two", x.needs(0, 2), -5);
        c.same("rings", x.rings(1), -1);
        c.same("rings, what 2", x.rings(2), -2);
        c.same("judge", x.judge(0, 0, 1), -1);
        c.same("judge, no such two", x.judge(0, 0, 2), -5);
        c.same("drawn", x.drawn(0, 0, 1), -1);
        c.same("drawn, SEED", x.drawn(-1, 0, 1), -7);
        c.same("drawn, no such two", x.drawn(0, 1, 1), -5);
    }
}
