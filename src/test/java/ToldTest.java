/** Promises 21 to 25: judge, left, whom, laws, film. */
final class ToldTest {
    private static final Check c = new Check();

    public static void main(String[] args) {
        judge();
        judgeRefuses();
        left();
        whom();
        laws();
        film();
        c.end();
    }

    private static ArmAgainstArm of(String law, int... told) {
        ArmAgainstArm x = Check.under(law);
        for (int t : told) x.arm(0, t, 0);
        return x;
    }

    private static void judge() {
        c.promise(21, "judge");
        ArmAgainstArm x = of("force told; spends 0; hurts 0;", 10, 0, 40);
        Check.sheet(x, 0, 2, 5, 10, 15, 20, 25, 30, 30, 30);
        c.same("all as told", x.judge(0, 0, 1), -1);
        c.same("the other one's", x.judge(0, 1, 0), 0);
        for (int i = 0; i < 8; i++) {
            Check.sheet(x, 0, 2, 5, 10, 15, 20, 25, 30, 30, 30);
            x.cell(0, i, 4);
            c.same("otherwise at " + i, x.judge(0, 0, 1), i);
            x.cell(0, 7, 4);
            c.same("the first of two", x.judge(0, 0, 1), i);
        }
        Check.sheet(x, 0, 2);
        c.same("nothing told", x.judge(0, 0, 1), -1);
        Check.sheet(x, 1, 0, -5, -10, -15);
        c.same("bytes below 0", x.judge(1, 1, 0), -1);
        Check.sheet(x, 2, 1, -5, -10, -16);
        c.same("shorts below 0", x.judge(2, 1, 0), 2);
        Check.sheet(x, 3, 2, 30);
        c.same("over within five", x.judge(3, 2, 1), 0);
        Check.sheet(x, 3, 2, 20, 30, 30);
        c.same("over stays over", x.judge(3, 2, 1), -1);
        Check.sheet(x, 1, 0, 256 + 5);
        c.same("lowest 8 bits", x.judge(1, 0, 1), -1);
        Check.sheet(x, 1, 2, 256 + 5);
        c.same("ints are as they are", x.judge(1, 0, 1), 0);
    }

    private static void judgeRefuses() {
        c.promise(21, "judge");
        ArmAgainstArm x = of("force told; spends 0; hurts 0;", 10, 0);
        x.sheet(0, 0, 8);
        x.sheet(1, 1, 9);
        for (int s : new int[] {-1, 4, Integer.MIN_VALUE, Integer.MAX_VALUE}) {
            c.same("no sheet", x.judge(s, 0, 0), -2);
            c.promise(22, "left");
            c.same("no sheet", x.left(s, 0, 0), -2);
            c.promise(23, "whom");
            c.same("no sheet", x.whom(s, 9), -2);
            c.promise(24, "laws");
            c.same("no sheet", x.laws(s, 0, 0), -2);
            c.promise(21, "judge");
        }
        c.same("missing", x.judge(2, 0, 0), -11);
        c.same("more than 8, ahead of no such two", x.judge(1, 0, 0), -2);
        c.same("alike", x.judge(0, 1, 1), -5);
        c.same("no such b", x.judge(0, 0, 2), -5);
        c.same("no such a", x.judge(0, -1, 0), -5);
        c.same("eight are taken", x.judge(0, 0, 1), 0);
        c.promise(22, "left");
        c.same("missing", x.left(2, 0, 0), -11);
        c.same("more than 8, ahead of no such two", x.left(1, 0, 0), -2);
        c.same("alike", x.left(0, 1, 1), -5);
        c.same("no such b", x.left(0, 0, 2), -5);
        c.same("no such a", x.left(0, -1, 0), -5);
        c.same("eight are taken", x.left(0, 0, 1), 0);
        c.promise(23, "whom");
        c.same("missing", x.whom(2, 9), -11);
        c.same("more than 8, ahead of no such arm", x.whom(1, 9), -2);
        c.same("no such arm", x.whom(0, 2), -5);
        c.same("arm -1", x.whom(0, -1), -5);
        c.same("eight are taken", x.whom(0, 0), 0);
        c.promise(24, "laws");
        c.same("missing", x.laws(2, 0, 0), -11);
        c.same("more than 8, ahead of no such two", x.laws(1, 0, 0), -2);
        c.same("alike", x.laws(0, 1, 1), -5);
        c.same("no such b", x.laws(0, 0, 2), -5);
        c.same("no such a", x.laws(0, -1, 0), -5);
        c.same("eight are taken", x.laws(0, 0, 1), 0);
    }

    private static void left() {
        c.promise(22, "left");
        // The other one's force: 20 less, as long as its hold is above 9: it rests two tenths, then spends 3 each.
        ArmAgainstArm x = of("force told * 10 + (told = 0) * (9 < hold) * 20; spends 3; hurts 0;", 1, 0);
        for (int hold = 0; hold <= 24; hold++) {
            x.set(1, 0, hold);
            int first = x.match(1, 5, 0), second = x.match(1, 10, 0);
            Check.sheet(x, 0, 2, first, second);
            int bits = x.left(0, 0, 1);
            int due = 0;
            for (int h = 0; h <= 24; h++) {
                x.set(1, 0, h);
                if (x.match(1, 5, 0) == first && x.match(1, 10, 0) == second) due |= 1 << h;
            }
            c.same("by hold " + hold, bits, due);
            if (hold % 6 == 5) x = of("force told * 10 + (told = 0) * (9 < hold) * 20; spends 3; hurts 0;", 1, 0);
        }
        Check.sheet(x, 1, 0);
        x.set(1, 0, 7);
        c.same("nothing told: any", x.left(1, 0, 1), (1 << 25) - 1);
        c.same("hold stays", x.told(1, 0), 7);
        Check.sheet(x, 1, 0, 31);
        c.same("none", x.left(1, 0, 1), 0);
        ArmAgainstArm y = of("force (told = 0) * (tenth = 0) * hold * 10; spends 0; hurts 0;", 1, 0);
        Check.sheet(y, 0, 1, -13);
        c.same("13", y.left(0, 0, 1), 1 << 13);
        Check.sheet(y, 0, 1, 0);
        c.same("0", y.left(0, 0, 1), 1);
        Check.sheet(y, 0, 1, -20);
        c.same("20 and above: force 200 at most", y.left(0, 0, 1), 31 << 20);
    }

    private static void whom() {
        c.promise(23, "whom");
        ArmAgainstArm x = of("force told; spends 0; hurts 0;", 40, 20, 30, 20, 40, 29);
        Check.sheet(x, 0, 0, 10, 20);
        c.same("20", x.whom(0, 0), 2 + 8);
        Check.sheet(x, 0, 0, 5);
        c.same("30 and 29 (1 by 10, cut)", x.whom(0, 0), 4 + 32);
        Check.sheet(x, 0, 0, 0, 0);
        c.same("as strong; not itself", x.whom(0, 0), 16);
        Check.sheet(x, 0, 0, -5);
        c.same("stronger", x.whom(0, 2), 1 + 16);
        Check.sheet(x, 0, 0);
        c.same("all others", x.whom(0, 3), 63 - 8);
        Check.sheet(x, 0, 0, 7);
        c.same("none", x.whom(0, 0), 0);
    }

    private static void laws() {
        c.promise(24, "laws");
        ArmAgainstArm x = new ArmAgainstArm();
        x.arm(0, 60, 0);
        x.arm(0, 50, 0);
        Check.text(x, "force told; spends 0; hurts 0;");
        Check.text(x, "force told * 2; spends 0; hurts 0;");
        Check.text(x, "force told + 20; spends 9; hurts 5;");
        c.same("law 0", x.match(1, 5, 0), 5);
        Check.sheet(x, 0, 2, 5);
        c.same("0, 1, 3", x.laws(0, 0, 1), 1 + 2 + 8);
        Check.sheet(x, 0, 2, 10, 20);
        c.same("2", x.laws(0, 0, 1), 4);
        Check.sheet(x, 0, 2, 11);
        c.same("none", x.laws(0, 0, 1), 0);
        Check.sheet(x, 0, 2);
        c.same("any of four", x.laws(0, 0, 1), 15);
        x.set(0, 0, 0);
        Check.sheet(x, 0, 2, 5);
        c.same("0 is by hold", x.laws(0, 0, 1), 2 + 8);
        c.same("the law stays", x.count(2), 0);
    }

    private static void filmOfSix() {
        int[] told = {0, 10, 30, 60, 99, 45};
        ArmAgainstArm x = of("force told; spends 0; hurts 0;", told);
        for (int a = 0; a < 6; a++) {
            for (int b = 0; b < 6; b++) {
                if (a == b) continue;
                int angle = Math.max(-30, Math.min(30, 5 * ((told[a] - told[b]) / 10)));
                x.film(0, 10 * a + b, 1);
                Check.sheet(x, 1, 2, angle);
                c.same("film of " + a + b, x.judge(0, a, b), -1);
                c.same("film of " + a + b + " by hand", x.judge(1, a, b), -1);
            }
        }
    }

    private static void film() {
        c.promise(25, "film");
        ArmAgainstArm x = of("force told; spends 0; hurts 0;", 30, 20);
        c.same("no sheet", x.film(4, 0, 9), -2);
        c.same("no sheet", x.film(-1, 1, 1), -2);
        c.same("alike, ahead of n", x.film(0, 11, 9), -5);
        c.same("no such two", x.film(0, 2, 1), -5);
        c.same("no such two", x.film(0, -1, 1), -5);
        c.same("n 9", x.film(0, 1, 9), -7);
        c.same("n -1", x.film(0, 1, -1), -7);
        c.same("refused: still missing", x.cell(0, 0, 0), -11);
        c.same("n 0", x.film(0, 1, 0), 0);
        c.same("no places, but there", x.cell(0, 0, 0), -12);
        c.same("n 8", x.film(0, 1, 8), 8);
        c.same("eight places", x.cell(0, 8, 0), -12);
        c.same("told so", x.judge(0, 0, 1), -1);
        int[] angles = {5, 10, 15, 20, 25, 30, 30, 30};
        Check.sheet(x, 1, 2, angles);
        c.same("ints", x.copy(0, 0, 1, 0, 8), 8);
        c.same("as reckoned by hand", x.judge(1, 0, 1), -1);
        Check.sheet(x, 1, 2, angles);
        c.same("as reckoned by hand", x.judge(1, 0, 1), -1);
        c.same("the other one's", x.film(0, 10, 3), 3);
        c.same("three places", x.cell(0, 3, 0), -12);
        Check.sheet(x, 1, 2, -5, -10, -15);
        c.same("below the line", x.judge(0, 1, 0), -1);
        c.same("below the line", x.judge(1, 1, 0), -1);
        filmOfSix();
        x.sheet(2, 0, 40);
        c.same("a sheet of bytes becomes one of ints", x.film(2, 1, 1), 1);
        c.same("of ints", x.copy(2, 0, 1, 0, 1), 1);
        c.same("hold stays", x.told(0, 0), 24);
    }
}
