/** What the promises 10 to 34 answer at their own bounds: the least, the greatest, nothing, all. */
final class EdgesTest {
    private static final Check c = new Check();
    private static final String BY_TOLD = "force told;spends 0;hurts 0;";

    public static void main(String[] args) {
        match();
        wins();
        fight();
        rest();
        best();
        even();
        line();
        needs();
        row();
        beats();
        rings();
        judge();
        left();
        whom();
        laws();
        film();
        odds();
        back();
        sheet();
        copy();
        armsBy();
        taken();
        c.end();
    }

    private static ArmAgainstArm of(String law, int... told) {
        ArmAgainstArm x = Check.under(law);
        for (int t : told) x.arm(0, t, 0);
        return x;
    }

    // ---- bouts

    private static void match() {
        c.promise(10, "match");
        ArmAgainstArm x = of(BY_TOLD, 99, 0);
        int[] angles = {0, 9, 18, 27, 30, 30};
        for (int n = 0; n < angles.length; n++) c.same("behind " + n, x.match(1, n, 0), angles[n]);
        c.same("behind 40, of as many as there are", x.match(1, 40, 0), 30);
        x = of(BY_TOLD, 10, 0, 0, 0, 0, 10);
        c.same("the least two", x.match(1, 1, 0), 1);
        c.same("the greatest two", x.match(54, 1, 0), 1);
        c.same("first and last", x.match(5, 1, 0), 0);
        c.same("last and first", x.match(50, 40, 0), 0);
    }

    private static void wins() {
        c.promise(11, "wins");
        int[][] rows = {{29, 19}, {20, 11}, {11, 20}, {99, 0}, {0, 99}, {19, 9}, {10, 0}, {0, 10}, {30, 0}, {15, 0}, {0, 0}};
        for (int[] row : rows) {
            ArmAgainstArm x = of(BY_TOLD, row[0], row[1]);
            int by = (row[0] - row[1]) / 10;
            c.same("who", x.wins(0, 1, 0), by > 0 ? 0 : by < 0 ? 1 : -1);
            int down = by == 0 ? -1 : (29 + Math.abs(by)) / Math.abs(by);
            c.same("DOWN behind", x.wins(0, 1, 1), down);
        }
        ArmAgainstArm x = of("force (told=1)*((tenth<10)*10+(tenth<30)*10);spends 0;hurts 0;", 1, 0);
        c.same("20 behind 10, DOWN behind 20", x.wins(0, 1, 1), 20);
        x = of("force (told=1)*(tenth<29)*10;spends 0;hurts 0;", 1, 0);
        c.same("29 at the end: nobody is", x.wins(0, 1, 1), -1);
        x = of("force (told=1)*(tenth<30)*10;spends 0;hurts 0;", 1, 0);
        c.same("30 behind 30", x.wins(0, 1, 1), 30);
        x = of("force (told=1)*(9<tenth)*10;spends 0;hurts 0;", 1, 0);
        c.same("30 behind the last", x.wins(0, 1, 1), 40);
        x = of("force (told=1)*(10<tenth)*10;spends 0;hurts 0;", 1, 0);
        c.same("29 behind the last", x.wins(0, 1, 1), -1);
        x = of("force (told=1)*(tenth=0)*200+(told=1)*(tenth=1)*100;spends 0;hurts 0;", 1, 0);
        c.same("behind two", x.wins(0, 1, 1), 2);
    }

    private static void fight() {
        c.promise(12, "fight");
        ArmAgainstArm x = of("force 0;spends 1;hurts 0;", 0, 0, 0);
        x.set(1, 0, 0);
        x.set(1, 1, 0);
        x.set(2, 0, 7);
        c.same("neither", x.fight(0, 1), 0);
        c.same("24, two of rest, 38 pressed: 0 at least", x.told(0, 0), 0);
        c.same("40 of rest: 24 at most", x.told(1, 0), 24);
        c.same("the third one's stays", x.told(2, 0), 7);
        x = of(BY_TOLD, 99, 0);
        c.same("30", x.fight(0, 1), 30);
        c.same("-30", x.fight(1, 0), -30);
        x = of("force hold*10*(told=1);spends 9;hurts 0;", 1, 0);
        c.same("once", x.fight(0, 1), 30);
        c.same("over behind two, both late", x.told(0, 0), 24);
        x.set(0, 0, 0);
        c.same("FORCE 0, 10, 20 by two tenths of rest, then none", x.fight(0, 1), 3);
        c.same("truly", x.told(0, 0), 0);
    }

    private static void rest() {
        c.promise(13, "rest");
        for (int n = 0; n <= 24; n++) {
            ArmAgainstArm x = of(BY_TOLD, 0, 0, 0, 0, 0, 0);
            int[] holds = {0, 1, 12, 23, 24, 24 - n};
            int together = 0;
            for (int a = 0; a < 6; a++) {
                x.set(a, 0, holds[a]);
                together += Math.min(24, holds[a] + n);
            }
            c.same("all together by " + n, x.rest(n), together);
            for (int a = 0; a < 6; a++) c.same("HOLD of " + a, x.told(a, 0), Math.min(24, holds[a] + n));
        }
        ArmAgainstArm x = of(BY_TOLD, 0, 0, 0, 0, 0, 0);
        c.same("the most", x.rest(24), 144);
        for (int a = 0; a < 6; a++) x.set(a, 0, 0);
        c.same("the least", x.rest(0), 0);
        x.image();
        x = new ArmAgainstArm();
        x.image();
        x.arm(0, 0, 0);
        x.back();
        c.same("those that are none any more don't count", x.rest(24), 0);
    }

    // ---- how hard

    private static void best() {
        c.promise(14, "best");
        ArmAgainstArm x = of("force 0;spends 1;hurts 0;", 0, 0);
        c.same("the least PLAN of all", x.best(0, 1, 0), 0);
        c.same("ANGLE 0", x.best(0, 1, 1), 0);
        c.same("HOLD 24 at most", x.best(0, 1, 2), 24);
        x = of("force (told=1)*(hard=3)*9;spends 0;hurts 0;", 1, 0);
        c.same("cut: none helps", x.best(0, 1, 0), 0);
        x = of("force (told=1)*(hard=3)*((9<tenth)*(tenth<11)+(tenth=9)+(tenth=29)+(tenth=30))*10;spends 0;hurts 0;", 1, 0);
        c.same("the greatest PLAN of all", x.best(0, 1, 0), 3333);
        c.same("by one tenth in each PART, at its begin or end", x.best(0, 1, 1), 4);
        x = of("force (told=0)*99;spends 9*(told=1);hurts 0;", 1, 0);
        c.same("ANGLE -30", x.best(0, 1, 1), -30);
        x.set(0, 0, 0);
        c.same("the HOLD of four tenths of rest", x.best(0, 1, 2), 4);
        c.same("by resting", x.best(0, 1, 0), 0);
        x = of("force (told=1)*99;spends 9;hurts 0;", 1, 0);
        c.same("ANGLE 30", x.best(0, 1, 1), 30);
        // Its own PLAN doesn't matter, the other one's does.
        x = of("force hard*10;spends 0;hurts 0;", 1, 0);
        x.set(1, 1, 3333);
        for (int plan : new int[] {0, 1111, 3333}) {
            x.set(0, 1, plan);
            c.same("whatever its own is", x.best(0, 1, 0), 3333);
        }
        x.set(1, 1, 0);
        c.same("the least of those by which b is DOWN", x.best(0, 1, 0), 3);
    }

    private static void even() {
        c.promise(15, "even");
        ArmAgainstArm x = of("force hard*10;spends 0;hurts 0;", 1, 0);
        x.set(0, 1, 3333);
        x.set(1, 1, 3332);
        c.same("b would, by its last PART", x.even(0, 1), 0);
        c.same("b would, by its last PART", x.even(1, 0), 0);
        x.set(1, 1, 3333);
        c.same("neither", x.even(0, 1), 1);
        x.set(0, 1, 2333);
        c.same("a would, by its first PART", x.even(0, 1), 0);
        x.set(1, 1, 0);
        c.same("DOWN already: a can't be better, b can", x.even(0, 1), 0);
        x = of("force (told=1)*99;spends hard;hurts 0;", 1, 0);
        c.same("DOWN whatever either does", x.even(0, 1), 1);
        c.that("by another PLAN it would have more HOLD, no more", x.best(0, 1, 2) > x.match(1, 40, 1));
        // 0 can mend what 1 does to it; against one like itself there would be nothing to mend.
        x = of("force (told=1)*(angle<0)*(hard=3)*10+(told=0)*(tenth=0)*50;spends 0;hurts 0;", 1, 0);
        c.same("-5 by its own PLAN", x.match(1, 40, 0), -5);
        c.same("0 by another one", x.best(0, 1, 1), 0);
        c.same("a would, against just this b", x.even(0, 1), 0);
        c.same("b would, against just this a", x.even(1, 0), 0);
        x.set(0, 1, 3333);
        c.same("neither would", x.even(0, 1), 1);
        c.same("neither would", x.even(1, 0), 1);
    }

    private static void line() {
        c.promise(16, "line");
        for (int n = 0; n <= 31; n++) {
            ArmAgainstArm x = of("force (told=1)*(tenth<" + n + ")*10;spends 0;hurts 0;", 1, 0);
            c.same(n + " more on the way", x.line(0, 1), Math.max(-29, 1 - n));
            c.same(n + " less on the way", x.line(1, 0), Math.min(30, 1 + n));
        }
        ArmAgainstArm x = of(BY_TOLD, 99, 0);
        c.same("-29 at least", x.line(0, 1), -29);
        c.same("from none", x.line(1, 0), 30);
        x = of("force (told=0)*(0-29<angle)*99;spends 0;hurts 0;", 1, 0);
        c.same("from 29 alone: b doesn't press there", x.line(0, 1), 29);
    }

    private static void needs() {
        c.promise(17, "needs");
        for (int h = 0; h <= 24; h++) {
            ArmAgainstArm x = Check.under("force (told=1)*(tenth=0)*(" + (h - 1) + "<hold)*10;spends 0;hurts 0;");
            x.arm(0, 1, 0);
            x.arm(0, 0, 0);
            x.set(0, 0, 3);
            c.same("from " + h, x.needs(0, 1), h);
            c.same("its own stays", x.told(0, 0), 3);
        }
        c.same("25 would be too much", of("force (told=1)*(24<hold)*10;spends 0;hurts 0;", 1, 0).needs(0, 1), -1);
        c.same("no WIN by 0", of("force 0;spends 0;hurts 0;", 1, 0).needs(0, 1), -1);
    }

    // ---- rows, rings

    private static void row() {
        c.promise(18, "row");
        ArmAgainstArm x = of(BY_TOLD, 0, 99, 98, 97, 96, 95);
        c.same("nobody", x.row(0, 0, 0), 0);
        c.same("nobody", x.row(0, 0, 1), 0);
        c.same("four, none beaten", x.row(0, 30, 0), 0);
        c.same("four, none beaten", x.row(0, 30, 1), 0);
        c.same("five", x.row(0, 62, 0), -7);
        x = of(BY_TOLD, 99, 0, 0, 0, 0, 0);
        c.same("four", x.row(0, 60, 0), 4);
        c.same("four, the first order", x.row(0, 60, 1), 3456);
        c.same("the last alone", x.row(0, 32, 1), 6);
        c.same("the first alone", x.row(1, 1, 1), 0);
        for (int set = 0; set < 64; set += 2) {
            int order = 0, many = 0;
            for (int b = 1; b < 6; b++) {
                if ((set >> b & 1) == 0) continue;
                order = 10 * order + b + 1;
                many++;
            }
            c.same("how many of " + set, x.row(0, set, 0), many > 4 ? -7 : many);
            c.same("whom of " + set, x.row(0, set, 1), many > 4 ? -7 : order);
        }
        // HOLD then: 0 .. 24 by the first one's PLAN; 4 more, 24 at most, is what the second one finds.
        for (int h = 0; h <= 24; h++) {
            x = Check.under("force (told=1)*((tenth<3)*(hold=" + Math.min(24, h + 4) + ")+(tenth=39)*(hold=" + h + ")*9)*10;spends 0;hurts 0;");
            x.arm(2, 1, 9);
            x.arm(0, 0, 0);
            x.arm(0, 0, 0);
            x.set(0, 0, h);
            c.same("HOLD " + h + " and 4", x.row(0, 6, 1), 23);
            c.same("HOLD stays truly", x.told(0, 0), h);
        }
    }

    private static void beats() {
        c.promise(19, "beats");
        ArmAgainstArm x = of(BY_TOLD, 0, 10, 20, 30, 40, 50);
        for (int a = 0; a < 6; a++) c.same("all below " + a, x.beats(a), (1 << a) - 1);
        x = of(BY_TOLD, 50, 40, 30, 20, 10, 0);
        for (int a = 0; a < 6; a++) c.same("all above " + a, x.beats(a), 63 - ((2 << a) - 1));
        // HOLD as each has it now: two tenths of rest leave them two apart at least, that is 1 of ANGLE a tenth.
        x = of("force hold*8;spends 0;hurts 0;", 0, 0, 0, 0, 0, 0);
        for (int a = 0; a < 6; a++) x.set(a, 0, 4 + 4 * a);
        for (int a = 0; a < 6; a++) c.same("all with less HOLD than " + a, x.beats(a), (1 << a) - 1);
        for (int a = 0; a < 6; a++) x.set(a, 0, 24 - 4 * a);
        for (int a = 0; a < 6; a++) c.same("all with less HOLD than " + a, x.beats(a), 63 - ((2 << a) - 1));
    }

    private static void rings() {
        c.promise(20, "rings");
        ArmAgainstArm x = new ArmAgainstArm();
        c.same("none", x.rings(0), 0);
        c.same("none", x.rings(1), -1);
        int[][] places = {{0, 1, 2}, {0, 1, 5}, {3, 4, 5}, {0, 4, 5}, {2, 3, 5}};
        for (int[] p : places) {
            int[] told = {0, 0, 0, 0, 0, 0};
            for (int i = 0; i < 3; i++) told[p[i]] = i + 1;
            c.same("one", ring(told).rings(0), 1);
            c.same("the least number first", ring(told).rings(1), 100 * p[0] + 10 * p[1] + p[2] + 111);
            told[p[1]] = 3;
            told[p[2]] = 2;
            c.same("one, the other way", ring(told).rings(0), 1);
            c.same("the least number first", ring(told).rings(1), 100 * p[0] + 10 * p[2] + p[1] + 111);
        }
    }

    /** Told 1 has 10 early; told 2 puts down in the middle who hasn't pressed it yet; told 3 has the last word; 0 has none. */
    private static ArmAgainstArm ring(int... told) {
        return of("force (told=1)*(tenth<10)*10 + (told=2)*(19<tenth)*(tenth<22)*(-1<angle)*200"
            + " + (told=3)*(34<tenth)*90; spends 0; hurts 0;", told);
    }

    // ---- told bouts

    private static void judge() {
        c.promise(21, "judge");
        ArmAgainstArm x = of("force told;spends 0;hurts 0;", 10, 0);
        int[] angles = {5, 10, 15, 20, 25, 30, 30, 30};
        for (int sort = 0; sort < 3; sort++) {
            for (int n = 0; n <= 8; n++) {
                x.sheet(0, sort, n);
                for (int i = 0; i < n; i++) x.cell(0, i, angles[i]);
                c.same("all " + n, x.judge(0, 0, 1), -1);
                if (n == 0) continue;
                x.cell(0, n - 1, 29 - angles[n - 1]);
                c.same("not the last of " + n, x.judge(0, 0, 1), n - 1);
                x.cell(0, 0, 6);
                c.same("not the first of " + n, x.judge(0, 0, 1), 0);
            }
        }
        x.sheet(0, 2, 9);
        c.same("9 are too many", x.judge(0, 0, 1), -2);
        x.sheet(0, 2, 40);
        c.same("40, too", x.judge(0, 0, 1), -2);
        x.sheet(0, -1, 0);
        c.same("missing", x.judge(0, 0, 1), -11);
    }

    private static void left() {
        c.promise(22, "left");
        ArmAgainstArm x = of("force (told=0)*(tenth=0)*(hold=24)*10+(told=0)*(tenth=5)*(hold=6)*10;spends 0;hurts 0;", 1, 0);
        x.set(1, 1, 1000);
        Check.sheet(x, 0, 2, -1);
        c.same("24 alone", x.left(0, 0, 1), 1 << 24);
        Check.sheet(x, 0, 2, 0);
        c.same("all but 24", x.left(0, 0, 1), (1 << 24) - 1);
        Check.sheet(x, 0, 2, 0, -1);
        c.same("4, and two more by rest", x.left(0, 0, 1), 1 << 4);
        x = of("force (told=0)*(tenth=0)*(hold=0)*10;spends 0;hurts 0;", 1, 0);
        Check.sheet(x, 0, 2, -1);
        c.same("0 alone", x.left(0, 0, 1), 1);
        x.sheet(0, 2, 0);
        c.same("all, by nothing told", x.left(0, 0, 1), (1 << 25) - 1);
        c.same("a's doesn't matter", x.set(0, 0, 9), 24);
        c.same("all, by nothing told", x.left(0, 0, 1), (1 << 25) - 1);
    }

    private static void whom() {
        c.promise(23, "whom");
        ArmAgainstArm x = of(BY_TOLD, 50, 10, 20, 30, 40, 60);
        for (int b = 1; b < 6; b++) {
            int by = (50 - (b == 5 ? 60 : 10 * b)) / 10;
            Check.sheet(x, 0, 2, Math.max(-30, Math.min(30, 5 * by)));
            c.same("whom by " + by, x.whom(0, 0), 1 << b);
        }
        Check.sheet(x, 0, 2);
        for (int a = 0; a < 6; a++) c.same("all but itself", x.whom(0, a), 63 - (1 << a));
        x = of(BY_TOLD, 50);
        Check.sheet(x, 0, 2);
        c.same("alone", x.whom(0, 0), 0);
    }

    private static void laws() {
        c.promise(24, "laws");
        ArmAgainstArm x = new ArmAgainstArm();
        for (int t = 1; t < 6; t++) Check.text(x, "force told*(tenth<" + t + ");spends 0;hurts 0;");
        x.arm(0, 10, 0);
        x.arm(0, 0, 0);
        for (int t = 0; t < 5; t++) {
            // TEXT t brings ANGLE to t, by ten a tenth; THE LAW at first brings it to 5, as TEXT 5 does.
            Check.sheet(x, 0, 2, t);
            c.same("by " + t, x.laws(0, 0, 1), t == 0 ? 0 : 1 << t);
        }
        Check.sheet(x, 0, 2, 5);
        c.same("by the first and the last", x.laws(0, 0, 1), 1 + 32);
        Check.sheet(x, 0, 2);
        c.same("all six", x.laws(0, 0, 1), 63);
        x.force(5);
        c.same("all six, whatever THE LAW is", x.laws(0, 0, 1), 63);
        c.same("THE LAW stays", x.count(2), 5);
        x = of(BY_TOLD, 10, 0);
        Check.sheet(x, 0, 2);
        c.same("two there are", x.laws(0, 0, 1), 3);
    }

    private static void film() {
        c.promise(25, "film");
        int[] angles = {5, 10, 15, 20, 25, 30, 30, 30};
        for (int s = 0; s < 4; s++) {
            for (int n = 0; n <= 8; n++) {
                ArmAgainstArm x = of(BY_TOLD, 10, 0);
                c.same("so many", x.film(s, 1, n), n);
                c.same("just as many places", x.cell(s, n, 0), -12);
                c.same("ints", x.armsBy(s, 2, 0, 0), 0);
                c.same("as told", x.judge(s, 0, 1), -1);
                Check.sheet(x, (s + 1) % 4, 2, java.util.Arrays.copyOf(angles, n));
                c.same("by hand", x.copy(s, 0, (s + 1) % 4, 0, n), n);
                c.same("by hand", x.judge((s + 1) % 4, 0, 1), -1);
                c.same("of the other one", x.film(s, 10, n), n);
                c.same("of the other one", x.judge(s, 1, 0), -1);
                c.same("not of this one", x.judge(s, 0, 1), n == 0 ? -1 : 0);
            }
        }
    }

    // ---- starts by lot

    private static void odds() {
        c.promise(27, "odds");
        ArmAgainstArm always = of(BY_TOLD, 10, 0);
        for (int seeds = 1; seeds <= 30; seeds++) {
            c.same("1 above", always.odds(0, seeds, 1, 0), 1);
            c.same("1 below", always.odds(0, seeds, 1, 1), 1);
            c.same("0 above", always.odds(99999, seeds, 10, 0), 0);
            c.same("1 below", always.odds(99999, seeds, 10, 1), 1);
        }
        c.same("0 seeds", always.odds(0, 0, 1, 0), ArmAgainstArm.NO);
        c.same("31 seeds", always.odds(0, 31, 1, 0), ArmAgainstArm.NO);
    }

    private static void back() {
        c.promise(29, "back");
        ArmAgainstArm x = of(BY_TOLD, 10, 20);
        x.image();
        x.arm(0, 30, 0);
        x.image();
        x.arm(0, 40, 0);
        c.same("to the last IMAGE", x.back(), 3);
        c.same("to the last IMAGE, again", x.back(), 3);
        c.same("an IMAGE of one more", x.arm(5, 50, 9), 3);
        c.same("the new one is as told", x.told(3, 3), 50);
        c.same("the third is as it was", x.told(2, 3), 30);
        x.force(0);
        c.same("THE LAW comes back", x.back(), 3);
        c.same("THE LAW", x.count(2), 1);
    }

    // ---- the host

    private static void sheet() {
        c.promise(30, "sheet");
        ArmAgainstArm x = of("force 0;spends 0;hurts 0;", 0, 0);
        for (int sort = 0; sort < 3; sort++) {
            for (int was = 0; was < 3; was++) {
                x.sheet(1, was, 40);
                for (int i = 0; i < 8; i++) x.cell(1, i, 7);
                x.sheet(1, sort, 8);
                c.same("all 0, of sort " + sort + " behind " + was, x.judge(1, 0, 1), -1);
                c.same("of the sort", x.armsBy(1, sort, 0, 0), 0);
                x.cell(1, 7, 7);
                x.sheet(1, -1, 8);
                c.same("missing", x.cell(1, 7, 7), -11);
                x.sheet(1, sort, 8);
                c.same("all 0 anew", x.judge(1, 0, 1), -1);
            }
        }
    }

    private static void copy() {
        c.promise(32, "copy");
        ArmAgainstArm x = of(BY_TOLD, 10, 0);
        x.sheet(0, 0, 40);
        x.sheet(1, 0, 40);
        for (int i = 0; i < 8; i++) x.cell(0, 32 + i, new int[] {5, 10, 15, 20, 25, 30, 30, 30}[i]);
        c.same("all 40", x.copy(0, 0, 1, 0, 40), 40);
        c.same("41", x.copy(0, 0, 1, 0, 41), -12);
        c.same("40 from 1 on", x.copy(0, 1, 1, 0, 40), -12);
        c.same("40 to 1", x.copy(0, 0, 1, 1, 40), -12);
        c.same("39 upwards in its own", x.copy(1, 1, 1, 0, 39), 39);
        c.same("39 downwards in its own", x.copy(1, 0, 1, 1, 39), 39);
        x.sheet(2, 0, 8);
        c.same("the last eight", x.copy(1, 32, 2, 0, 8), 8);
        c.same("as they were", x.judge(2, 0, 1), -1);
        c.same("none, behind the last", x.copy(1, 40, 2, 8, 0), 0);
        c.same("none, one further", x.copy(1, 41, 2, 8, 0), -12);
        c.same("none, one further there", x.copy(1, 40, 2, 9, 0), -12);
        c.same("none, ahead of the first", x.copy(1, -1, 2, 0, 0), -12);
        c.same("none, ahead of the first there", x.copy(1, 0, 2, -1, 0), -12);
        c.same("fewer than none", x.copy(1, 1, 2, 1, -1), -12);
        c.same("as they were", x.judge(2, 0, 1), -1);
    }

    private static void armsBy() {
        c.promise(33, "armsBy");
        int[] rows = {0, 0, 0, 1, 1, 1, 2, 50, 2, 3, 98, 7, 4, 99, 8, 5, 0, 9};
        for (int sort = 0; sort < 3; sort++) {
            for (int n = 0; n <= 6; n++) {
                ArmAgainstArm x = new ArmAgainstArm();
                Check.sheet(x, 3, sort, rows);
                c.same(n + " of six", x.armsBy(3, sort, 0, n), n);
                c.same("so many", x.count(0), n);
                for (int a = 0; a < n; a++) {
                    for (int i = 0; i < 3; i++) c.same("as told", x.told(a, 2 + i), rows[3 * a + i]);
                }
                c.same("the rest left out", x.armsBy(3, sort, 0, 6), 6 - n);
                c.same("six", x.count(0), 6);
            }
        }
        armsByOutside(rows);
        armsByLeftOut();
    }

    private static void armsByOutside(int[] rows) {
        int[][] tries = {{15, 1, 1}, {16, 0, 1}, {17, 0, 1}, {18, 0, 1}, {15, 1, 2}, {12, 2, 3}, {3, 5, 6}, {0, 6, 6}, {-1, 0, 1}, {-3, 0, 2}};
        for (int[] row : tries) {
            ArmAgainstArm x = new ArmAgainstArm();
            Check.sheet(x, 0, 2, rows);
            c.same(row[2] + " from " + row[0] + " on", x.armsBy(0, 2, row[0], row[2]), row[1] == row[2] ? row[1] : -12);
            int came = row[0] % 3 == 0 || row[1] > 0 ? row[1] : 0;
            c.same("what stood ahead came", x.count(0), came);
            for (int a = 0; a < came; a++) c.same("as told", x.told(a, 2), rows[row[0] + 3 * a]);
        }
    }

    private static void armsByLeftOut() {
        int[][] wrong = {{-1, 5, 5}, {6, 5, 5}, {2, -1, 5}, {2, 100, 5}, {2, 5, -1}, {2, 5, 10}};
        for (int[] w : wrong) {
            ArmAgainstArm x = new ArmAgainstArm();
            Check.sheet(x, 0, 1, 1, 11, 1, w[0], w[1], w[2], 3, 33, 3, 0);
            c.same("one of three is none", x.armsBy(0, 1, 0, 3), 2);
            c.same("the first", x.told(0, 3), 11);
            c.same("the third is the second", x.told(1, 3), 33);
            c.same("two and no fourth", x.armsBy(0, 1, 0, 4), -12);
            c.same("they came", x.count(0), 4);
        }
        ArmAgainstArm x = new ArmAgainstArm();
        Check.sheet(x, 0, 0, 0, 100, 0, 0, 255, 0, 0, 99, 0);
        c.same("a byte of 255 is below 0", x.armsBy(0, 0, 0, 3), 1);
        for (int i = 0; i < 4; i++) x.arm(0, 0, 0);
        c.same("one has room, two haven't", x.armsBy(0, 0, 6, 1) + x.armsBy(0, 0, 6, 1), 1);
        c.same("FULL, and outside: six stay", x.armsBy(0, 0, 6, 2), -12);
        c.same("six", x.count(0), 6);
        x.sheet(1, 0, 0);
        c.same("no place at all", x.armsBy(1, 0, 0, 1), -12);
        c.same("none wanted", x.armsBy(1, 0, 0, 0), 0);
    }

    private static void taken() {
        c.promise(34, "taken");
        for (int n = 0; n <= 6; n++) {
            ArmAgainstArm x = of(BY_TOLD, java.util.Arrays.copyOf(new int[6], n));
            for (int a = 0; a < n; a++) x.set(a, 0, a);
            for (int i = 0; i < 6; i++) {
                c.same("ARM " + i + " of " + n, x.taken(i, 0), i < n ? i : -11);
                c.same("HOLD " + i + " of " + n, x.taken(6 + i, 6), i < n && i > 0 ? i : -11);
            }
            c.same("place -1", x.taken(-1, 0), -12);
            c.same("place 12", x.taken(12, 6), -12);
        }
        ArmAgainstArm x = of(BY_TOLD, 0, 0);
        x.image();
        x.arm(5, 0, 0);
        c.same("a HEAVY", x.taken(2, 5), 2);
        c.same("its HOLD", x.taken(8, 6), 24);
        x.back();
        c.same("is none any more", x.taken(2, 5), -11);
        c.same("nor its HOLD", x.taken(8, 6), -11);
    }
}
