/** Promises 10 to 13: match, wins, fight, rest; and what a BOUT is. */
final class BoutsTest {
    private static final Check c = new Check();
    private static final String PLAIN = "force told; spends 2; hurts tenth;";

    public static void main(String[] args) {
        matchPlain();
        matchOver();
        matchLate();
        matchCut();
        matchAhead();
        matchHold();
        matchHurt();
        kindsForce();
        kindsSpend();
        bounds();
        matchOfSix();
        matchRefuses();
        wins();
        fight();
        rest();
        c.end();
    }

    private static ArmAgainstArm two(String law, int kindA, int toldA, int moreA, int kindB, int toldB, int moreB) {
        ArmAgainstArm x = Check.under(law);
        x.arm(kindA, toldA, moreA);
        x.arm(kindB, toldB, moreB);
        return x;
    }

    private static void matchPlain() {
        c.promise(10, "match");
        ArmAgainstArm x = two(PLAIN, 0, 29, 0, 0, 0, 0);
        for (int n = 0; n <= 15; n++) c.same("angle behind " + n, x.match(1, n, 0), 2 * n);
        for (int n = 0; n <= 15; n++) c.same("angle of the other behind " + n, x.match(10, n, 0), -2 * n);
        c.same("hold stays truly", x.told(0, 0), 24);
        c.same("plan stays truly", x.told(0, 1), 1111);
    }

    private static void matchOver() {
        c.promise(10, "match");
        ArmAgainstArm x = two(PLAIN, 0, 50, 0, 0, 20, 0);
        c.same("behind 9", x.match(1, 9, 0), 27);
        c.same("behind 10", x.match(1, 10, 0), 30);
        c.same("behind 11, of as many as there are", x.match(1, 11, 0), 30);
        c.same("behind 40", x.match(1, 40, 0), 30);
        c.same("hold when over: eight tenths pressed", x.match(1, 40, 1), 24 - 16);
        c.same("hold of the other", x.match(1, 40, 2), 24 - 16);
        c.same("hurt when over", x.match(1, 40, 3), 9);
        c.same("hurt of the other", x.match(10, 40, 3), 9);
        x = two(PLAIN, 0, 99, 0, 0, 29, 0);
        c.same("bound 30", x.match(1, 5, 0), 30);
        c.same("28 is not over", x.match(1, 4, 0), 28);
        c.same("bound -30", x.match(10, 5, 0), -30);
        c.same("hurt of the fifth tenth", x.match(1, 40, 3), 4);
    }

    private static void matchLate() {
        c.promise(10, "match");
        ArmAgainstArm x = two("force hard * 10; spends 0; hurts 0;", 0, 0, 0, 0, 0, 0);
        x.set(0, 1, 1230);
        x.set(1, 1, 0);
        int[] angles = {0, 0, 0, 1, 2, 3, 4, 5, 6, 7, 8, 10, 12, 14, 16, 18, 20, 22, 24, 26, 28, 30};
        for (int n = 0; n < angles.length; n++) c.same("late two, behind " + n, x.match(1, n, 0), angles[n]);
        x = two("force hard * 10; spends 0; hurts 0;", 2, 0, 5, 2, 0, 4);
        c.same("late none and late one", x.match(1, 1, 0), 1);
        c.same("late none and late one", x.match(1, 40, 0), 1);
        x = two("force hard * 10; spends 0; hurts 0;", 0, 0, 0, 4, 0, 9);
        c.same("late two and late none", x.match(1, 2, 0), -2);
        c.same("late two and late none", x.match(1, 40, 0), -2);
        x = two("force hard * 10; spends 0; hurts 0;", 0, 0, 0, 0, 0, 0);
        x.set(0, 1, 3);
        x.set(1, 1, 30);
        c.same("part 2 is the other's", x.match(1, 29, 0), -27);
        c.same("then over", x.match(1, 40, 0), -30);
        x.set(0, 1, 2);
        x.set(1, 1, 20);
        c.same("part 2 is the other's", x.match(1, 30, 0), -20);
        c.same("part 3 is its own", x.match(1, 40, 0), 0);
        c.same("part 3 is its own, midway", x.match(1, 31, 0), -18);
    }

    private static void matchCut() {
        c.promise(10, "match");
        ArmAgainstArm x = two(PLAIN, 0, 29, 0, 0, 10, 0);
        c.same("19 by 10", x.match(1, 1, 0), 1);
        c.same("-19 by 10", x.match(10, 1, 0), -1);
        x = two(PLAIN, 0, 19, 0, 0, 10, 0);
        c.same("9 by 10", x.match(1, 40, 0), 0);
        c.same("-9 by 10", x.match(10, 40, 0), 0);
    }

    private static void matchAhead() {
        c.promise(10, "match");
        ArmAgainstArm x = two("force (told = 1) * (10 + (hold < 24) * 10); spends 1; hurts hold * 4;", 0, 1, 0, 0, 0, 0);
        c.same("by hold ahead of the tenth", x.match(1, 3, 0), 3);
        c.same("less hold, then", x.match(1, 4, 0), 5);
        c.same("hurt by hold ahead", x.match(1, 3, 3), 96);
        x = two("force (told = 1) * 10 * (1 + angle); spends angle; hurts angle;", 2, 1, 9, 2, 0, 9);
        int[] angles = {0, 1, 3, 7, 15, 30};
        for (int n = 0; n < angles.length; n++) c.same("by angle ahead, behind " + n, x.match(1, n, 0), angles[n]);
        c.same("hurt by angle ahead", x.match(1, 5, 3), 15);
        c.same("hurt by angle ahead", x.match(1, 4, 3), 7);
        c.same("hurt of the other by its own", x.match(10, 5, 3), 0);
        c.same("spends by angle ahead", x.match(1, 4, 1), 24 - 1 - 3 - 7);
        c.same("the other spends by its own", x.match(1, 4, 2), 24);
        x = two("force (told = 1) * 30; spends 0; hurts 0 - angle;", 0, 1, 0, 0, 0, 0);
        c.same("the other is hurt by its own", x.match(10, 40, 3), 27);
    }

    private static void matchHold() {
        c.promise(10, "match");
        ArmAgainstArm x = two("force 0; spends 3; hurts 0;", 0, 0, 0, 0, 0, 0);
        x.set(0, 0, 10);
        x.set(0, 1, 2030);
        int[] holds = {10, 11, 12, 9, 6, 3, 0, 0, 0, 0, 0, 1, 2};
        for (int n = 0; n < holds.length; n++) c.same("hold behind " + n, x.match(1, n, 1), holds[n]);
        c.same("hold behind 20", x.match(1, 20, 1), 10);
        c.same("hold behind 23", x.match(1, 23, 1), 1);
        c.same("hold behind 24", x.match(1, 24, 1), 0);
        c.same("hold behind 40", x.match(1, 40, 1), 10);
        c.same("hold of the other: 24 at most while late", x.match(1, 2, 2), 24);
        c.same("hold of the other", x.match(1, 5, 2), 15);
        c.same("hold of b told by b", x.match(10, 12, 2), 2);
    }

    private static void matchHurt() {
        c.promise(10, "match");
        ArmAgainstArm x = two("force 0; spends 0; hurts (tenth = 3) * 70 + tenth;", 0, 0, 0, 0, 0, 0);
        int[] hurts = {0, 0, 1, 2, 73, 73, 73};
        for (int n = 0; n < hurts.length; n++) c.same("hurt behind " + n, x.match(1, n, 3), hurts[n]);
        c.same("hurt behind 40", x.match(1, 40, 3), 73);
        x = two("force 0; spends 0; hurts hard * 20;", 0, 0, 0, 0, 0, 0);
        x.set(0, 1, 3211);
        c.same("no hurt while late", x.match(1, 2, 3), 0);
        c.same("hurt by how hard", x.match(1, 3, 3), 60);
        c.same("hurt of the other", x.match(10, 3, 3), 20);
    }

    private static void kindsForce() {
        c.promise(10, "match");
        String law = "force told; spends 2; hurts 0;";
        // Against an ARM of force 0, with 30 told: behind so many tenths so much.
        int[][] rows = {
            {0, 30, 9, 1, 3}, {0, 30, 9, 4, 12},
            {1, 30, 9, 1, 4}, {1, 30, 5, 1, 4}, {1, 30, 4, 1, 3},
            {2, 30, 9, 1, 3}, {3, 30, 9, 1, 4}, {3, 24, 3, 1, 3}, {3, 24, 3, 2, 6}, {3, 24, 3, 6, 18}, {3, 24, 3, 7, 21},
            {3, 24, 3, 8, 24}, {4, 30, 9, 4, 12}, {5, 30, 9, 1, 3}, {5, 35, 9, 1, 4}, {5, 34, 9, 1, 3},
        };
        for (int[] row : rows) {
            ArmAgainstArm x = two(law, row[0], row[1], row[2], 0, 0, 0);
            c.same("kind " + row[0] + " told " + row[1] + " more " + row[2], x.match(1, row[3], 0), row[4]);
            c.same("kind " + row[0] + " as b", x.match(10, row[3], 0), -row[4]);
        }
        ArmAgainstArm x = two("force told; spends 4; hurts 0;", 1, 16, 2, 0, 0, 0);
        x.set(0, 0, 21);
        // 22, 23 (late), 19, 15, 11: the fifth tenth begins with 15, the sixth with 11, not above 12.
        int[] strong = {0, 2, 4, 6, 8, 10, 11, 12};
        for (int n = 0; n < strong.length; n++) c.same("strong while hold is above 12, behind " + n, x.match(1, n, 0), strong[n]);
        x = two("force told; spends 0; hurts 0;", 1, 16, 2, 0, 0, 0);
        x.set(0, 1, 1000);
        x.set(0, 0, 12);
        c.same("hold 12 is not above 12", x.match(1, 1, 0), 1);
        x.set(0, 0, 13);
        c.same("hold 13 is", x.match(1, 1, 0), 2);
        kindsByAngle();
    }

    private static void kindsByAngle() {
        String law = "force told; spends 0; hurts 0;";
        ArmAgainstArm x = two(law, 3, 38, 0, 0, 0, 0);
        // 38, 39, 40, 41 (angle 0, 3, 6, 10), 42 (14), 44 (18), 45 (22), 46 (26)
        int[] top = {0, 3, 6, 10, 14, 18, 22, 26, 30};
        for (int n = 0; n < top.length; n++) c.same("top by its angle, behind " + n, x.match(1, n, 0), top[n]);
        x = two(law, 3, 0, 0, 0, 30, 0);
        c.same("top below the line", x.match(1, 9, 0), -27);
        x = two(law, 4, 0, 0, 0, 28, 0);
        // half of 2, 4, 6, 8, .. less of 28, cut: -28 -27 -26 -25 -24 -23 -22 -21 -20 -20 ..
        int[] hook = {0, -2, -4, -6, -8, -10, -12, -14, -16, -18, -19, -20, -21, -22, -23};
        for (int n = 0; n < hook.length; n++) c.same("hook by its angle, behind " + n, x.match(1, n, 0), hook[n]);
        x = two(law, 4, 30, 0, 0, 0, 0);
        c.same("hook above the line", x.match(1, 9, 0), 27);
        x = two(law, 5, 21, 1, 0, 36, 0);
        // 26 - 36 while angle is not below -2, then 10 - 36
        int[] heavy = {0, -1, -2, -3, -5, -7, -9};
        for (int n = 0; n < heavy.length; n++) c.same("heavy by its angle, behind " + n, x.match(1, n, 0), heavy[n]);
        x = two(law, 5, 61, 1, 0, 91, 0);
        // 66 - 91, from -4 on 30 - 91
        int[] half = {0, -2, -4, -10, -16, -22, -28, -30};
        for (int n = 0; n < half.length; n++) c.same("heavy's half, behind " + n, x.match(1, n, 0), half[n]);
        x = two(law, 5, 21, 0, 0, 36, 0);
        int[] heavy0 = {0, -1, -3, -5};
        for (int n = 0; n < heavy0.length; n++) c.same("heavy with more 0, behind " + n, x.match(1, n, 0), heavy0[n]);
    }

    private static void kindsSpend() {
        c.promise(10, "match");
        int[][] rows = {
            {0, 3333, 24 - 2}, {1, 3333, 24 - 2}, {3, 3333, 24 - 3}, {3, 2222, 24 - 2}, {3, 1111, 24 - 2}, {3, 0, 24},
            {5, 3333, 24 - 4}, {5, 1111, 24 - 4}, {5, 0, 24},
        };
        for (int[] row : rows) {
            ArmAgainstArm x = two("force 0; spends 2; hurts 0;", row[0], 0, 0, 0, 0, 0);
            x.set(0, 1, row[1]);
            c.same("kind " + row[0] + " plan " + row[1], x.match(1, 3, 1), row[2]);
        }
        int[][] quick = {{2, 0, 24 - 4}, {2, 5, 24 - 6}, {4, 0, 24 - 4}, {4, 5, 24 - 6}};
        for (int[] row : quick) {
            ArmAgainstArm x = two("force 0; spends 2; hurts 0;", row[0], 0, row[1], 0, 0, 0);
            c.same("kind " + row[0] + " more " + row[1], x.match(1, 3, 1), row[2]);
        }
        ArmAgainstArm x = two("force 0; spends 9; hurts 0;", 5, 0, 0, 0, 0, 0);
        c.same("heavy twice the most", x.match(1, 3, 1), 24 - 18);
        c.same("hold 0 at least", x.match(1, 4, 1), 0);
    }

    private static void bounds() {
        c.promise(10, "match");
        ArmAgainstArm x = two("force told * 99; spends 99; hurts told * 99;", 0, 9, 0, 0, 0, 0);
        c.same("force 200 at most", x.match(1, 1, 0), 20);
        c.same("spends 9 at most", x.match(10, 3, 2), 24);
        c.same("hurts 100 at most", x.match(1, 1, 3), 100);
        x = two("force told * 99; spends 99; hurts 0;", 0, 0, 0, 0, 0, 0);
        c.same("spends 9 at most", x.match(1, 3, 1), 15);
        x = two("force 0 - told; spends 0 - 5; hurts 0;", 0, 99, 0, 0, 0, 0);
        c.same("force 0 at least", x.match(1, 40, 0), 0);
        c.same("spends 0 at least", x.match(1, 40, 1), 24);
        x = two("force told * 99; spends 0; hurts 0;", 1, 9, 9, 0, 0, 0);
        c.same("a kind's force is above 200", x.match(1, 1, 0), 21);
    }

    private static void matchOfSix() {
        c.promise(10, "match");
        ArmAgainstArm x = Check.under("force told; spends 0; hurts told;");
        int[] told = {0, 10, 30, 60, 99, 45};
        for (int t : told) x.arm(0, t, 0);
        for (int a = 0; a < 6; a++) {
            for (int b = 0; b < 6; b++) {
                c.same("angle of " + a + b, x.match(10 * a + b, 1, 0), a == b ? -100 : (told[a] - told[b]) / 10);
                c.same("hurt of " + a + b, x.match(10 * a + b, 1, 3), a == b ? -100 : told[a]);
            }
        }
    }

    private static void matchRefuses() {
        c.promise(10, "match");
        ArmAgainstArm x = new ArmAgainstArm();
        c.same("no arms", x.match(1, 0, 0), -100);
        x.arm(0, 0, 0);
        c.same("only one", x.match(1, 0, 0), -100);
        x.arm(0, 0, 0);
        for (int ab : new int[] {0, 11, 2, 20, 12, 21, -1, -10, 100, 101, 110, Integer.MIN_VALUE, Integer.MAX_VALUE}) {
            c.same("ab " + ab, x.match(ab, 0, 0), -100);
        }
        c.same("no such two ahead of n", x.match(2, 41, 4), -100);
        c.same("n -1", x.match(1, -1, 0), -200);
        c.same("n 41", x.match(1, 41, 0), -200);
        c.same("what -1", x.match(1, 0, -1), -200);
        c.same("what 4", x.match(1, 0, 4), -200);
        c.same("n 40", x.match(1, 40, 0), 0);
        c.same("n 0, hold", x.match(10, 0, 1), 24);
        c.same("n 0, hold of b", x.match(10, 0, 2), 24);
        c.same("n 0, hurt", x.match(10, 0, 3), 0);
    }

    private static void wins() {
        c.promise(11, "wins");
        ArmAgainstArm x = two(PLAIN, 0, 50, 0, 0, 20, 0);
        x.arm(0, 21, 0);
        x.arm(0, 31, 0);
        c.same("0 wins", x.wins(0, 1, 0), 0);
        c.same("told by the other", x.wins(1, 0, 0), 0);
        c.same("down behind 10", x.wins(0, 1, 1), 10);
        c.same("down behind 10, told by the other", x.wins(1, 0, 1), 10);
        c.same("neither", x.wins(1, 2, 0), -1);
        c.same("nobody down", x.wins(1, 2, 1), -1);
        c.same("down behind 30", x.wins(3, 1, 1), 30);
        c.same("3 wins", x.wins(1, 3, 0), 3);
        x.set(0, 0, 3);
        c.same("hold doesn't matter to this law", x.wins(0, 1, 1), 10);
        ArmAgainstArm y = two("force (told = 1) * (30 - tenth); spends 0; hurts 0;", 0, 1, 0, 0, 0, 0);
        c.same("3, ten times 2, seven times 1", y.wins(0, 1, 1), 18);
        y = two("force (told = 1) * (tenth = 39) * 10; spends 0; hurts 0;", 0, 1, 0, 0, 0, 0);
        c.same("wins by the last tenth", y.wins(0, 1, 0), 0);
        c.same("nobody is down", y.wins(0, 1, 1), -1);
        y = two("force (told = 1) * (tenth = 39) * 200 + (told = 1) * (tenth = 0) * 100; spends 0; hurts 0;", 0, 1, 0, 0, 0, 0);
        c.same("down behind the last tenth", y.wins(0, 1, 1), 40);
        c.same("alike", x.wins(0, 0, 0), -5);
        c.same("no such b", x.wins(0, 4, 0), -5);
        c.same("no such a", x.wins(-1, 0, 0), -5);
        c.same("no such two ahead of what", x.wins(4, 0, 2), -5);
        c.same("what -1", x.wins(0, 1, -1), -7);
        c.same("what 2", x.wins(0, 1, 2), -7);
    }

    private static void fight() {
        c.promise(12, "fight");
        ArmAgainstArm x = two(PLAIN, 0, 50, 0, 5, 12, 9);
        x.set(0, 0, 20);
        c.same("angle then", x.fight(0, 1), 30);
        // 50 against 17 (told 12, 5 more), 6 (half) once its angle is below -18: 3 x 7 = 21, then 4 x 3.
        c.same("hold of a", x.told(0, 0), 22 - 16);
        c.same("hold of b: twice as much", x.told(1, 0), 0);
        c.same("plans stay", x.told(0, 1), 1111);
        c.same("again, from there on", x.fight(1, 0), -30);
        c.same("hold of a", x.told(0, 0), 0);
        c.same("hold of b", x.told(1, 0), 0);
        c.same("alike", x.fight(0, 0), -100);
        c.same("no such b", x.fight(0, 2), -100);
        c.same("no such a", x.fight(-1, 0), -100);
        ArmAgainstArm y = two("force 0; spends 1; hurts 0;", 0, 0, 0, 0, 0, 0);
        y.arm(0, 0, 0);
        y.set(0, 1, 1000);
        y.set(1, 1, 1);
        y.set(1, 0, 3);
        c.same("neither", y.fight(0, 1), 0);
        c.same("hold rests behind the first part", y.told(0, 0), 24);
        c.same("hold of b", y.told(1, 0), 14);
        c.same("a third one's hold", y.told(2, 0), 24);
    }

    private static void rest() {
        c.promise(13, "rest");
        ArmAgainstArm x = new ArmAgainstArm();
        c.same("nobody", x.rest(0), 0);
        c.same("-1", x.rest(-1), -2);
        c.same("25", x.rest(25), -2);
        for (int i = 0; i < 3; i++) x.arm(i, 0, 0);
        x.set(0, 0, 0);
        x.set(1, 0, 10);
        x.set(2, 0, 22);
        c.same("25 refused", x.rest(25), -2);
        c.same("far above", x.rest(Integer.MAX_VALUE), -2);
        c.same("0: all together", x.rest(0), 32);
        c.same("3 more", x.rest(3), 3 + 13 + 24);
        c.same("hold 0", x.told(0, 0), 3);
        c.same("hold 1", x.told(1, 0), 13);
        c.same("hold 2: 24 at most", x.told(2, 0), 24);
        c.same("24 more", x.rest(24), 72);
        c.same("all have 24", x.told(0, 0), 24);
    }
}
