/** Promises 26 to 29: drawn, odds, image, back. */
final class LotsTest {
    private static final Check c = new Check();
    // Who comes late by more tenths presses that much less; nothing else matters.
    private static final String LATE = "force hard * 10; spends 0; hurts 0;";

    public static void main(String[] args) {
        drawn();
        drawnRefuses();
        odds();
        oddsRefuses();
        image();
        backTakes();
        c.end();
    }

    private static int late(int seed, int which) {
        java.math.BigInteger lot = java.math.BigInteger.valueOf(seed + 1);
        for (int i = 0; i <= which; i++) {
            lot = lot.multiply(java.math.BigInteger.valueOf(48271)).mod(java.math.BigInteger.valueOf(2147483647));
        }
        return lot.intValue() % 4;
    }

    private static ArmAgainstArm two(int moreA, int moreB) {
        ArmAgainstArm x = Check.under(LATE);
        x.arm(2, 0, moreA);
        x.arm(2, 0, moreB);
        return x;
    }

    private static void drawn() {
        c.promise(26, "drawn");
        ArmAgainstArm x = two(5, 5);
        int[] seeds = {0, 1, 2, 3, 4, 5, 6, 7, 8, 9, 10, 99, 100, 1000, 44487, 44488, 65535, 65536, 99998, 99999};
        for (int seed : seeds) {
            int a = late(seed, 0), b = late(seed, 1);
            c.same("seed " + seed, x.drawn(seed, 0, 1), a == b ? -1 : a < b ? 0 : 1);
            c.same("seed " + seed + ", told by the other", x.drawn(seed, 1, 0), a == b ? -1 : a < b ? 1 : 0);
        }
        // 48271 modulo 4 is 3; 48271 times 48271 modulo 2147483647 is 182605794, modulo 4 is 2.
        c.same("seed 0: a three more late, b two", x.drawn(0, 0, 1), 1);
        x = two(5, 0);
        c.same("seed 0: a three late, b one and two", x.drawn(0, 0, 1), -1);
        c.same("seed 0: a one and three late, b two", x.drawn(0, 1, 0), 0);
        c.same("late stays", x.told(0, 5), 0);
        c.same("no lot otherwise", x.wins(0, 1, 0), 0);
    }

    private static void drawnRefuses() {
        c.promise(26, "drawn");
        ArmAgainstArm x = two(5, 5);
        c.same("alike", x.drawn(0, 1, 1), -5);
        c.same("no such b", x.drawn(0, 0, 2), -5);
        c.same("no such a, ahead of the seed", x.drawn(-1, -1, 0), -5);
        c.same("seed -1", x.drawn(-1, 0, 1), -7);
        c.same("seed 100000", x.drawn(100000, 0, 1), -7);
        c.same("seed far above", x.drawn(Integer.MAX_VALUE, 0, 1), -7);
    }

    private static void odds() {
        c.promise(27, "odds");
        ArmAgainstArm x = two(5, 5);
        for (int seed : new int[] {0, 17, 500, 99970, 99999}) {
            for (int seeds : new int[] {1, 2, 6, 7, 12, 30}) {
                int won = 0;
                for (int i = 0; i < seeds; i++) if (late(seed + i, 0) < late(seed + i, 1)) won++;
                int common = java.math.BigInteger.valueOf(won).gcd(java.math.BigInteger.valueOf(seeds)).intValue();
                c.same("above", x.odds(seed, seeds, 1, 0), won / common);
                c.same("below", x.odds(seed, seeds, 1, 1), seeds / common);
            }
        }
        x = Check.under("force told; spends 0; hurts 0;");
        x.arm(0, 30, 0);
        x.arm(0, 20, 0);
        c.same("always", x.odds(5, 30, 1, 0), 1);
        c.same("always", x.odds(5, 30, 1, 1), 1);
        for (int t : new int[] {35, 10, 40, 0}) x.arm(0, t, 0);
        int[] told = {30, 20, 35, 10, 40, 0};
        for (int ab = 0; ab < 66; ab++) {
            int a = ab / 10, b = ab % 10;
            boolean none = a == b || a > 5 || b > 5;
            long due = none ? ArmAgainstArm.NO : told[a] - told[b] >= 10 ? 1 : 0;
            c.same("odds of " + ab, x.odds(7, 3, ab, 0), due);
        }
        c.same("never", x.odds(5, 30, 10, 0), 0);
        c.same("never", x.odds(5, 30, 10, 1), 1);
    }

    private static void oddsRefuses() {
        c.promise(27, "odds");
        ArmAgainstArm x = two(5, 5);
        c.same("seed -1", x.odds(-1, 1, 1, 0), ArmAgainstArm.NO);
        c.same("seed 100000", x.odds(100000, 1, 1, 0), ArmAgainstArm.NO);
        c.same("seeds 0", x.odds(0, 0, 1, 0), ArmAgainstArm.NO);
        c.same("seeds 31", x.odds(0, 31, 1, 0), ArmAgainstArm.NO);
        c.same("alike", x.odds(0, 1, 11, 0), ArmAgainstArm.NO);
        c.same("no such b", x.odds(0, 1, 2, 0), ArmAgainstArm.NO);
        c.same("ab -1", x.odds(0, 1, -1, 0), ArmAgainstArm.NO);
        c.same("part -1", x.odds(0, 1, 1, -1), ArmAgainstArm.NO);
        c.same("part 2", x.odds(0, 1, 1, 2), ArmAgainstArm.NO);
        c.that("the greatest seed is taken", x.odds(99999, 30, 1, 1) > 0);
    }

    private static void image() {
        c.promise(28, "image");
        ArmAgainstArm x = new ArmAgainstArm();
        c.same("of nobody", x.image(), 0);
        x.arm(0, 50, 0);
        x.arm(3, 60, 5);
        c.same("of two", x.image(), 2);
        c.same("changes nothing", x.told(0, 0), 24);
        x.set(0, 0, 3);
        c.same("the last one counts", x.image(), 2);
        x.set(0, 0, 9);
        x.back();
        c.same("hold as of the last one", x.told(0, 0), 3);
    }

    private static void backTakes() {
        c.promise(29, "back");
        ArmAgainstArm x = new ArmAgainstArm();
        c.same("none yet", x.back(), -3);
        c.same("an image of nobody", x.image(), 0);
        x.arm(0, 50, 0);
        c.same("back to nobody", x.back(), 0);
        c.same("none is there", x.told(0, 0), -5);
        x.arm(5, 70, 7);
        x.arm(0, 60, 0);
        x.set(0, 0, 11);
        x.set(1, 1, 3210);
        Check.text(x, "force 1; spends 1; hurts 1;");
        x.force(1);
        c.same("an image of two", x.image(), 2);
        Check.text(x, "force 2; spends 1; hurts 1;");
        x.force(2);
        x.set(0, 0, 20);
        x.set(0, 1, 2);
        x.set(1, 0, 0);
        x.set(1, 1, 3);
        x.arm(1, 1, 1);
        x.sheet(0, 0, 3);
        x.feed(2, 1, 1, 1, 1, 1);
        c.same("back to two", x.back(), 2);
        c.same("arms", x.count(0), 2);
        c.same("the third is none", x.told(2, 0), -5);
        c.same("hold 0", x.told(0, 0), 11);
        c.same("plan 0", x.told(0, 1), 1111);
        c.same("hold 1", x.told(1, 0), 24);
        c.same("plan 1", x.told(1, 1), 3210);
        c.same("kind stays", x.told(0, 2), 5);
        c.same("the law", x.count(2), 1);
        c.same("texts stay", x.count(1), 3);
        c.same("the tape stays", x.count(3), 2);
        c.same("sheets stay", x.cell(0, 2, 0), 1);
        x.set(0, 0, 1);
        c.same("back again", x.back(), 2);
        c.same("hold 0 again", x.told(0, 0), 11);
        c.same("a new third", x.arm(2, 9, 9), 2);
        c.same("is new", x.told(2, 0), 24);
        c.same("is new", x.told(2, 1), 1111);
        c.same("is quick", x.told(2, 2), 2);
        c.same("is not late", x.told(2, 5), 0);
    }
}
