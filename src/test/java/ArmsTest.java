/** Promises 7 to 9: arm, set, told. */
final class ArmsTest {
    private static final Check c = new Check();

    public static void main(String[] args) {
        arm();
        set();
        told();
        c.end();
    }

    private static void arm() {
        c.promise(7, "arm");
        ArmAgainstArm x = new ArmAgainstArm();
        c.same("kind -1", x.arm(-1, 0, 0), -2);
        c.same("kind 6", x.arm(6, 0, 0), -2);
        c.same("told -1", x.arm(0, -1, 0), -2);
        c.same("told 100", x.arm(0, 100, 0), -2);
        c.same("more -1", x.arm(0, 0, -1), -2);
        c.same("more 10", x.arm(0, 0, 10), -2);
        c.same("none came", x.count(0), 0);
        for (int kind = 0; kind < 6; kind++) c.same("kind " + kind, x.arm(kind, kind == 0 ? 0 : 99, kind == 0 ? 0 : 9), kind);
        c.same("FULL", x.arm(0, 0, 0), -4);
        c.same("BAD ahead of FULL", x.arm(0, 0, 10), -2);
        c.same("six", x.count(0), 6);
        c.same("kind as told", x.told(3, 2), 3);
        c.same("told as told", x.told(5, 3), 99);
        c.same("more as told", x.told(5, 4), 9);
        c.same("hold at first", x.told(5, 0), 24);
        c.same("plan at first", x.told(5, 1), 1111);
    }

    private static void set() {
        c.promise(8, "set");
        ArmAgainstArm x = new ArmAgainstArm();
        c.same("no arm", x.set(0, 0, 0), -5);
        x.arm(0, 0, 0);
        x.arm(0, 0, 0);
        c.same("arm -1", x.set(-1, 0, 0), -5);
        c.same("no arm ahead of the others", x.set(2, 2, 25), -5);
        c.same("what -1", x.set(0, -1, 0), -7);
        c.same("what 2", x.set(0, 2, 0), -7);
        c.same("hold 25", x.set(0, 0, 25), -7);
        c.same("hold -1", x.set(0, 0, -1), -7);
        c.same("hold 24 was", x.set(0, 0, 0), 24);
        c.same("hold 0 was", x.set(0, 0, 24), 0);
        c.same("hold 24 was again", x.set(0, 0, 13), 24);
        c.same("plan 1111 was", x.set(0, 1, 3210), 1111);
        c.same("plan 3210 was", x.set(0, 1, 0), 3210);
        c.same("plan 0 was", x.set(0, 1, 3333), 0);
        for (int bad : new int[] {4, 40, 400, 4000, 3334, 3343, 3433, 4333, -1, 1119, 9, 10000, 11111, Integer.MIN_VALUE, Integer.MAX_VALUE}) {
            c.same("plan " + bad, x.set(0, 1, bad), -7);
        }
        c.same("plan stays", x.told(0, 1), 3333);
        c.same("hold stays", x.told(0, 0), 13);
        c.same("the other's hold", x.told(1, 0), 24);
        c.same("the other's plan", x.told(1, 1), 1111);
    }

    private static void told() {
        c.promise(9, "told");
        ArmAgainstArm x = new ArmAgainstArm();
        c.same("no arm", x.told(0, 0), -5);
        int[][] rows = {{0, 9, 2}, {1, 9, 2}, {2, 4, 1}, {3, 9, 2}, {4, 5, 0}, {5, 9, 2}};
        for (int[] row : rows) x.arm(row[0], 30 + row[0], row[1]);
        for (int a = 0; a < 6; a++) {
            c.same("hold", x.told(a, 0), 24);
            c.same("plan", x.told(a, 1), 1111);
            c.same("kind", x.told(a, 2), a);
            c.same("told", x.told(a, 3), 30 + a);
            c.same("more", x.told(a, 4), rows[a][1]);
            c.same("late", x.told(a, 5), rows[a][2]);
            c.same("what -1", x.told(a, -1), -7);
            c.same("what 6", x.told(a, 6), -7);
        }
        c.same("arm -1", x.told(-1, 0), -5);
        c.same("no arm ahead of what", x.told(6, 6), -5);
        x.set(2, 0, 11);
        x.set(2, 1, 123);
        c.same("hold as set", x.told(2, 0), 11);
        c.same("plan as set", x.told(2, 1), 123);
        ArmAgainstArm y = new ArmAgainstArm();
        int[][] late = {{2, 0, 1}, {2, 9, 0}, {4, 4, 1}, {4, 9, 0}, {2, 5, 0}, {4, 0, 1}};
        for (int[] row : late) c.same("late of " + row[0] + " " + row[1], y.told(y.arm(row[0], 0, row[1]), 5), row[2]);
    }
}
