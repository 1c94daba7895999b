/** Promises 18 to 20: row, beats, rings. */
final class RowsTest {
    private static final Check c = new Check();

    public static void main(String[] args) {
        rowPlain();
        rowByHold();
        rowOrder();
        rowRefuses();
        beats();
        rings();
        c.end();
    }

    private static ArmAgainstArm of(String law, int... told) {
        ArmAgainstArm x = Check.under(law);
        for (int t : told) x.arm(0, t, 0);
        return x;
    }

    private static void rowPlain() {
        c.promise(18, "row");
        ArmAgainstArm x = of("force told; spends 0; hurts 0;", 30, 10, 20, 30, 40, 0);
        c.same("nobody to take on", x.row(0, 0, 0), 0);
        c.same("nobody to take on", x.row(0, 0, 1), 0);
        c.same("1 2 3 4", x.row(0, 30, 0), 2);
        c.same("1 2 3 4", x.row(0, 30, 1), 23);
        c.same("2 3 4 5", x.row(0, 60, 1), 36);
        c.same("only stronger", x.row(0, 24, 0), 0);
        c.same("only stronger", x.row(0, 24, 1), 0);
        c.same("4 takes 0 1 2 3", x.row(4, 15, 1), 1234);
        c.same("4 takes 0 1 2 3", x.row(4, 15, 0), 4);
        c.same("4 takes 5", x.row(4, 32, 1), 6);
        c.same("4 takes 5", x.row(4, 32, 0), 1);
    }

    private static void rowByHold() {
        c.promise(18, "row");
        ArmAgainstArm x = of("force (told = 1) * (hold = 24) * 200 + (told = 2); spends 9; hurts 0;", 1, 0, 0);
        // Two late tenths put the other one down ahead of any cost: hold is 24, and 4 more are 24.
        c.same("hold 24 at most", x.row(0, 6, 1), 23);
        x = of("force (told = 1) * (23 < hold) * 90; spends 9; hurts 0;", 1, 0, 0);
        // Down behind the fourth tenth can't be: 9, 18, 27 and no more; hold falls to 0, and 4 more are 4.
        c.same("the first", x.wins(0, 1, 0), 0);
        c.same("the second finds it tired", x.row(0, 6, 1), 2);
        c.same("the second finds it tired", x.row(0, 6, 0), 1);
        c.same("hold stays", x.told(0, 0), 24);
        x = of("force (told = 1) * (hold = 19 or hold = 20 or hold = 8) * 100; spends 8; hurts 0;", 1, 0, 0);
        x.set(0, 0, 18);
        // 19, 20 while late: 0, 10, 20, 30: hold 12 behind the third tenth; 4 more, then 17, 18: no win from there.
        c.same("hold as it is then, and 4", x.row(0, 6, 1), 2);
        x = of("force (told = 1) * (hold = 19 or hold = 20 or hold = 17 or hold = 18) * 100; spends 8; hurts 0;", 1, 0, 0);
        x.set(0, 0, 18);
        c.same("hold as it is then, and 4", x.row(0, 6, 1), 23);
    }

    private static void rowOrder() {
        c.promise(18, "row");
        String law = "force (told = 1) * hold * 5 + (1 < told) * told; spends (told = 1) * 6; hurts 0;";
        int[][] rows = {
            {10, 28, 19, 423}, {28, 10, 10, 342}, {28, 28, 10, 42}, {37, 28, 19, 43}, {99, 98, 97, 0}, {10, 99, 0, 24},
        };
        for (int[] row : rows) {
            int order = byHand(of(law, 1, row[0], row[1], row[2]));
            ArmAgainstArm x = of(law, 1, row[0], row[1], row[2]);
            c.same("order by fights", order, row[3]);
            c.same("order", x.row(0, 14, 1), row[3]);
            c.same("how many", x.row(0, 14, 0), String.valueOf(row[3]).replace("0", "").length());
        }
    }

    /** The longest row of 0 with 1, 2, 3 by fights, the first of those: of the six orders, the least first. */
    private static int byHand(ArmAgainstArm x) {
        int[][] orders = {{1, 2, 3}, {1, 3, 2}, {2, 1, 3}, {2, 3, 1}, {3, 1, 2}, {3, 2, 1}};
        int best = 0;
        x.image();
        for (int[] others : orders) {
            x.back();
            int order = 0;
            for (int b : others) {
                if (x.fight(0, b) <= 0) break;
                x.set(0, 0, Math.min(24, x.told(0, 0) + 4));
                order = 10 * order + b + 1;
            }
            if (String.valueOf(order).length() > String.valueOf(best).length() || best == 0) best = order;
        }
        return best;
    }

    private static void rowRefuses() {
        c.promise(18, "row");
        ArmAgainstArm x = of("force told; spends 0; hurts 0;", 99, 1, 2, 3, 4);
        c.same("no such a", x.row(5, 0, 0), -5);
        c.same("a -1", x.row(-1, 0, 0), -5);
        c.same("no such a ahead of the others", x.row(5, -1, 2), -5);
        c.same("itself", x.row(0, 1, 0), -7);
        c.same("itself and another", x.row(0, 3, 0), -7);
        c.same("one that isn't there", x.row(0, 32, 0), -7);
        c.same("far above", x.row(0, 64, 0), -7);
        c.same("set -1", x.row(0, -1, 0), -7);
        c.same("set below all", x.row(0, Integer.MIN_VALUE, 0), -7);
        c.same("four", x.row(0, 30, 0), 4);
        c.same("four", x.row(0, 30, 1), 2345);
        c.same("what -1", x.row(0, 2, -1), -7);
        c.same("what 2", x.row(0, 2, 2), -7);
        x.arm(0, 5, 0);
        c.same("five are too many", x.row(0, 62, 0), -7);
        c.same("the new one", x.row(0, 32, 1), 6);
    }

    private static void beats() {
        c.promise(19, "beats");
        ArmAgainstArm x = of("force told; spends 0; hurts 0;", 30, 10, 25, 30, 40, 0);
        c.same("0: 25 is too near", x.beats(0), 2 + 32);
        c.same("1", x.beats(1), 32);
        c.same("2", x.beats(2), 2 + 32);
        c.same("4", x.beats(4), 63 - 16);
        c.same("5", x.beats(5), 0);
        c.same("no such arm", x.beats(6), -5);
        c.same("-1", x.beats(-1), -5);
        c.same("alone", of("force told; spends 0; hurts 0;", 30).beats(0), 0);
    }

    private static void rings() {
        c.promise(20, "rings");
        ArmAgainstArm x = ring(1, 2, 3);
        c.same("0 beats 1", x.wins(0, 1, 0), 0);
        c.same("1 beats 2", x.wins(1, 2, 0), 1);
        c.same("2 beats 0", x.wins(2, 0, 0), 2);
        c.same("one ring", x.rings(0), 1);
        c.same("told from the least on", x.rings(1), 123);
        x = ring(1, 3, 2);
        c.same("one ring", x.rings(0), 1);
        c.same("the other way round", x.rings(1), 132);
        x = ring(1, 1, 2, 3);
        c.same("two rings", x.rings(0), 2);
        c.same("the first", x.rings(1), 134);
        x = ring(1, 2, 3, 1, 2, 3);
        c.same("eight rings", x.rings(0), 8);
        c.same("the first", x.rings(1), 123);
        x = ring(0, 3, 2, 0, 1);
        c.same("one ring", x.rings(0), 1);
        c.same("from its least on", x.rings(1), 253);
        x = ring(1, 2);
        c.same("two are none", x.rings(0), 0);
        c.same("two are none", x.rings(1), -1);
        x = of("force told; spends 0; hurts 0;", 10, 20, 30, 40);
        c.same("none", x.rings(0), 0);
        c.same("none is first", x.rings(1), -1);
        c.same("what -1", x.rings(-1), -2);
        c.same("what 2", x.rings(2), -2);
        c.same("what, with nobody", new ArmAgainstArm().rings(2), -2);
    }

    /** Told 1 has 10 early; told 2 puts down in the middle who hasn't pressed it yet; told 3 has the last word. */
    private static ArmAgainstArm ring(int... told) {
        return of("force (told=1)*(tenth<10)*10 + (told=2)*(19<tenth)*(tenth<22)*(-1<angle)*200"
            + " + (told=3)*(34<tenth)*90; spends 0; hurts 0;", told);
    }
}
