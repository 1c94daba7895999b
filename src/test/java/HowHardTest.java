/** Promises 14 to 17: best, even, line, needs. */
final class HowHardTest {
    private static final Check c = new Check();

    public static void main(String[] args) {
        bestByAngle();
        bestByPart();
        bestByHold();
        bestLeast();
        bestRefuses();
        even();
        line();
        needs();
        c.end();
    }

    private static ArmAgainstArm two(String law, int toldA, int toldB) {
        ArmAgainstArm x = Check.under(law);
        x.arm(0, toldA, 0);
        x.arm(0, toldB, 0);
        return x;
    }

    private static void bestByAngle() {
        c.promise(14, "best");
        ArmAgainstArm x = two("force (told = 1) * ((tenth = 15) * (hard = 2) + (tenth = 25) * (hard = 3)) * 40; spends 1; hurts 0;", 1, 0);
        c.same("plan", x.best(0, 1, 0), 230);
        c.same("angle", x.best(0, 1, 1), 8);
        c.same("hold then: 14, 4, 14", x.best(0, 1, 2), 14);
        c.same("plan stays", x.told(0, 1), 1111);
        c.same("hold stays", x.told(0, 0), 24);
        x.set(0, 1, 230);
        c.same("match by it", x.match(1, 40, 0), 8);
        c.same("match by it, hold", x.match(1, 40, 1), 14);
        c.same("the other can't help it", x.best(1, 0, 1), -8);
        c.same("the other's best", x.best(1, 0, 0), 0);
        c.same("the other's hold", x.best(1, 0, 2), 24);
        x = two("force hard * 10; spends 0; hurts 0;", 0, 0);
        x.set(1, 1, 3333);
        c.same("as hard as the other", x.best(0, 1, 0), 3333);
        c.same("no better than even", x.best(0, 1, 1), 0);
        x.set(1, 1, 2222);
        c.same("least plan that puts it down: 0, 10, 10, 10", x.best(0, 1, 0), 2333);
        c.same("angle", x.best(0, 1, 1), 30);
        x.set(1, 1, 1111);
        c.same("least plan that puts it down: 8 less, 0, 20, 20", x.best(0, 1, 0), 133);
        c.same("angle", x.best(0, 1, 1), 30);
    }

    private static void bestByPart() {
        c.promise(14, "best");
        int[] plans = {2000, 200, 20, 2};
        for (int part = 0; part < 4; part++) {
            ArmAgainstArm x = two("force (told = 1) * (tenth = " + (10 * part + 5) + ") * (hard = 2) * 40; spends 0; hurts 0;", 1, 0);
            c.same("in part " + part + " alone", x.best(0, 1, 0), plans[part]);
            c.same("angle", x.best(0, 1, 1), 4);
        }
        // The other one tires behind its PARTS 0 and 2: each plan finds it anew as it was.
        ArmAgainstArm x = tiring();
        int most = -31, plan = 0;
        for (int p = 0; p < 256; p++) {
            // An object has 512 calls.
            if (p == 128) x = tiring();
            int digits = p / 64 * 1000 + p / 16 % 4 * 100 + p / 4 % 4 * 10 + p % 4;
            x.set(0, 1, digits);
            int angle = x.match(1, 40, 0);
            if (angle > most) plan = digits;
            most = Math.max(most, angle);
        }
        c.same("as found one by one", x.best(0, 1, 0), plan);
        c.same("as found one by one", x.best(0, 1, 1), most);
    }

    private static ArmAgainstArm tiring() {
        ArmAgainstArm x = two("force (told = 1) * hard * 10 + (told = 0) * hold; spends (told = 0); hurts 0;", 1, 0);
        x.set(1, 1, 1010);
        return x;
    }

    private static void bestByHold() {
        c.promise(14, "best");
        // Pressing at all puts the other down behind its fifth tenth; hard 3 costs least.
        ArmAgainstArm x = two("force (told = 1) * (0 < hard) * 100; spends 4 - hard; hurts 0;", 1, 0);
        // Late two, then three tenths: hard 3 leaves 21; waiting till PART 1: 24, then 21 likewise.
        c.same("angle", x.best(0, 1, 1), 30);
        c.same("hold", x.best(0, 1, 2), 21);
        c.same("of like ones the least plan", x.best(0, 1, 0), 3);
        x.set(0, 0, 3);
        c.same("hold of 3, 30 tenths of rest", x.best(0, 1, 2), 21);
        c.same("waits", x.best(0, 1, 0), 3);
        x = two("force (told = 1) * (tenth = 5) * hard * 20; spends hard; hurts 0;", 1, 0);
        c.same("press in PART 0, rest then", x.best(0, 1, 0), 3000);
        c.same("angle", x.best(0, 1, 1), 6);
        c.same("hold", x.best(0, 1, 2), 24);
        x = two("force (told = 1) * (tenth = 35) * hard * 20; spends 2; hurts 0;", 1, 0);
        x.set(0, 0, 0);
        c.same("rest, then press", x.best(0, 1, 0), 3);
        c.same("hold: 24 less 20", x.best(0, 1, 2), 4);
    }

    private static void bestLeast() {
        c.promise(14, "best");
        ArmAgainstArm x = two("force told; spends 0; hurts 0;", 5, 5);
        c.same("all alike", x.best(0, 1, 0), 0);
        c.same("angle", x.best(0, 1, 1), 0);
        c.same("hold", x.best(0, 1, 2), 24);
        x = two("force told; spends 0; hurts 0;", 5, 99);
        c.same("all are down: most hold", x.best(0, 1, 0), 0);
        c.same("angle", x.best(0, 1, 1), -30);
    }

    private static void bestRefuses() {
        c.promise(14, "best");
        ArmAgainstArm x = two("force told; spends 0; hurts 0;", 5, 5);
        c.same("alike", x.best(1, 1, 0), -100);
        c.same("no such b", x.best(0, 2, 0), -100);
        c.same("no such a", x.best(-1, 0, 0), -100);
        c.same("no such two ahead of what", x.best(2, 0, 3), -100);
        c.same("what -1", x.best(0, 1, -1), -200);
        c.same("what 3", x.best(0, 1, 3), -200);
    }

    private static void even() {
        c.promise(15, "even");
        ArmAgainstArm x = two("force told; spends hard; hurts 0;", 5, 50);
        c.same("no plan matters", x.even(0, 1), 1);
        x = two("force hard * 10; spends 0; hurts 0;", 0, 0);
        c.same("both would stand better", x.even(0, 1), 0);
        x.set(0, 1, 3333);
        c.same("a can't, but b would", x.even(0, 1), 0);
        c.same("b can't, but a would", x.even(1, 0), 0);
        x.set(1, 1, 3333);
        c.same("neither would", x.even(0, 1), 1);
        c.same("neither would, told by the other", x.even(1, 0), 1);
        c.same("plans stay", x.told(0, 1), 3333);
        x = two("force (told = 1) * 9; spends hard; hurts 0;", 1, 0);
        c.same("more hold is not to stand better", x.even(0, 1), 1);
        x = two("force (told = 1) * 100 + (told = 2) * (1 < hard) * 200; spends hard; hurts 0;", 1, 2);
        c.same("b would", x.even(0, 1), 0);
        x.set(1, 1, 2000);
        c.same("down already, b stands well", x.match(1, 40, 0), -30);
        c.same("so a can't, b needn't", x.even(0, 1), 1);
        c.same("alike", x.even(0, 0), -5);
        c.same("no such b", x.even(0, 2), -5);
        c.same("no such a", x.even(-1, 0), -5);
    }

    private static void line() {
        c.promise(16, "line");
        ArmAgainstArm x = two("force told; spends 0; hurts 0;", 5, 5);
        c.same("from 1 on", x.line(0, 1), 1);
        x = two("force (told = 1) * (tenth < 12) * 10; spends 0; hurts 0;", 1, 0);
        c.same("12 more at the end", x.line(0, 1), -11);
        c.same("12 less at the end", x.line(1, 0), 13);
        x = two("force (told = 1) * 30; spends 0; hurts 0;", 1, 0);
        c.same("from all on", x.line(0, 1), -29);
        c.same("from none on", x.line(1, 0), 30);
        x = two("force (told = 1) * (angle = 0 - 20) * 200; spends 0; hurts 0;", 1, 0);
        c.same("from -20 to 0 is no win", x.line(0, 1), 1);
        x = two("force (told = 1) * ((angle = 0 - 20) * 200 + (angle = 0) * 50); spends 0; hurts 0;", 1, 0);
        c.same("where a wins from, though not from above", x.line(0, 1), -20);
        c.same("told truly: hold", x.told(0, 0), 24);
        c.same("alike", x.line(0, 0), -100);
        c.same("no such b", x.line(0, 2), -100);
        c.same("no such a", x.line(-1, 0), -100);
        x = two("force (told = 1) * (angle < 0 - 28 or tenth = 1) * 199; spends 0; hurts 0;", 1, 0);
        c.same("19, 19 more from -29 on", x.line(0, 1), -29);
        x = two("force (told = 1) * (angle < 0 - 29 or tenth = 1) * 199; spends 0; hurts 0;", 1, 0);
        c.same("19 more", x.line(0, 1), -18);
    }

    private static void needs() {
        c.promise(17, "needs");
        ArmAgainstArm x = two("force (told = 1) * hold; spends 0; hurts 0;", 1, 0);
        c.same("10, by rest 8", x.needs(0, 1), 8);
        c.same("never", x.needs(1, 0), -1);
        c.same("hold stays", x.told(0, 0), 24);
        x.set(0, 1, 0);
        c.same("rests", x.needs(0, 1), 0);
        x = two("force (told = 1) * (hold = 24) * 10; spends 9; hurts 0;", 1, 0);
        c.same("22 and two late tenths are 24", x.needs(0, 1), 22);
        x = two("force (told = 1) * (hold = 24) * (tenth < 1) * 10; spends 9; hurts 0;", 1, 0);
        c.same("all", x.needs(0, 1), 24);
        x = two("force (told = 1) * (hold = 5) * (tenth < 1) * 10; spends 9; hurts 0;", 1, 0);
        c.same("5, though more does not do", x.needs(0, 1), 5);
        c.same("alike", x.needs(0, 0), -5);
        c.same("no such b", x.needs(0, 2), -5);
        c.same("no such a", x.needs(-1, 0), -5);
    }
}
