/** Promises 30 to 34: sheet, cell, copy, armsBy, taken. */
final class HostTest {
    private static final Check c = new Check();
    private static final int MIN = Integer.MIN_VALUE, MAX = Integer.MAX_VALUE;

    public static void main(String[] args) {
        sheet();
        cell();
        copy();
        copyOverlaps();
        copyRefuses();
        armsBy();
        armsByRefuses();
        taken();
        c.end();
    }

    /** An object of which 0 stands at 5, 10, 15, 20, 25, 30, 30, 30 with 1. */
    private static ArmAgainstArm judging() {
        ArmAgainstArm x = Check.under("force told; spends 0; hurts 0;");
        x.arm(0, 10, 0);
        x.arm(0, 0, 0);
        return x;
    }

    private static void sheet() {
        c.promise(30, "sheet");
        ArmAgainstArm x = judging();
        for (int s : new int[] {-1, 4, MIN, MAX}) c.same("sheet " + s, x.sheet(s, 0, 1), -2);
        for (int sort : new int[] {-2, 3, MIN, MAX}) c.same("sort " + sort, x.sheet(0, sort, 1), -2);
        c.same("n 41", x.sheet(0, 0, 41), -2);
        c.same("n far above", x.sheet(0, 0, MAX), -2);
        c.same("n -1", x.sheet(0, 0, -1), -14);
        c.same("n far below", x.sheet(0, 2, MIN), -14);
        c.same("sort ahead of n", x.sheet(0, 3, -1), -2);
        c.same("sheet ahead of n", x.sheet(4, 0, -1), -2);
        c.same("refused: missing", x.cell(0, 0, 0), -11);
        c.same("n 0", x.sheet(0, 0, 0), 1);
        c.same("there, no places", x.cell(0, 0, 0), -12);
        c.same("n 40", x.sheet(3, 2, 40), 1);
        c.same("the last place", x.cell(3, 39, 0), 1);
        c.same("none behind", x.cell(3, 40, 0), -12);
        c.same("refused", x.sheet(3, 2, -1), -14);
        c.same("it stays", x.cell(3, 39, 0), 1);
        for (int n : new int[] {0, -1, 41, MIN, MAX}) {
            c.same("missing, n does not matter", x.sheet(3, -1, n), 1);
            c.same("missing", x.cell(3, 0, 0), -11);
        }
        Check.sheet(x, 1, 2, 5, 10, 15);
        c.same("as told", x.judge(1, 0, 1), -1);
        c.same("anew", x.sheet(1, 2, 3), 1);
        c.same("all 0", x.judge(1, 0, 1), 0);
        x.cell(1, 0, 5);
        c.same("all 0", x.judge(1, 0, 1), 1);
        x.cell(1, 1, 10);
        c.same("all 0", x.judge(1, 0, 1), 2);
        ArmAgainstArm y = judging();
        for (int sort = 0; sort < 3; sort++) {
            y.arm(0, 10, 0);
            Check.sheet(y, 0, sort, 5, 10, 15, 20, 25, 30, 30, 30);
            y.sheet(0, sort, 8);
            c.same("all 0, as two alike stand", y.judge(0, 0, 2), -1);
        }
        c.same("of another sort", x.sheet(1, 0, 3), 1);
        c.same("of bytes", x.copy(1, 0, 3, 0, 0), -11);
    }

    private static void cell() {
        c.promise(31, "cell");
        ArmAgainstArm x = judging();
        c.same("sheet -1", x.cell(-1, 0, 0), -2);
        c.same("sheet 4", x.cell(4, 0, 0), -2);
        c.same("missing, ahead of the place", x.cell(0, -1, 0), -11);
        x.sheet(0, 0, 2);
        x.sheet(1, 1, 2);
        x.sheet(2, 2, 2);
        for (int i : new int[] {-1, 2, MIN, MAX}) c.same("place " + i, x.cell(0, i, 0), -12);
        int[][] rows = {
            {0, 5, 1}, {0, 256 + 5, 1}, {0, -251, 1}, {0, 5 + (1 << 16), 1}, {0, 4, 0}, {0, 133, 0}, {0, 128 + 5, 0},
            {1, 5, 1}, {1, 256 + 5, 0}, {1, 65536 + 5, 1}, {1, -65531, 1}, {1, 5 - 32768, 0},
            {2, 5, 1}, {2, 256 + 5, 0}, {2, 65536 + 5, 0}, {2, MIN + 5, 0},
        };
        for (int[] row : rows) {
            c.same("cell", x.cell(row[0], 0, row[1]), 1);
            c.same("sort " + row[0] + " of " + row[1] + " is 5", x.judge(row[0], 0, 1) != 0 ? 1 : 0, row[2]);
        }
        x.cell(0, 0, 251);
        c.same("251 of a byte is -5", x.judge(0, 1, 0), 1);
        x.cell(1, 0, 65531);
        c.same("65531 of a short is -5", x.judge(1, 1, 0), 1);
        x.cell(2, 0, -5);
        c.same("-5 of an int is -5", x.judge(2, 1, 0), 1);
        x.cell(2, 1, -10);
        c.same("the second place", x.judge(2, 1, 0), -1);
    }

    private static void copy() {
        c.promise(32, "copy");
        ArmAgainstArm x = judging();
        for (int sort = 0; sort < 3; sort++) {
            Check.sheet(x, 0, sort, 99, 5, 10, 15, 99);
            Check.sheet(x, 1, sort, 1, 2, 3, 20);
            c.same("copied", x.copy(0, 1, 1, 0, 3), 3);
            c.same("as they were, one stays", x.judge(1, 0, 1), -1);
            c.same("nothing at the end of one", x.copy(0, 5, 1, 4, 0), 0);
            c.same("none changed", x.judge(1, 0, 1), -1);
            c.same("all", x.copy(1, 0, 0, 1, 4), 4);
            c.same("back", x.copy(0, 1, 0, 0, 4), 4);
            c.same("the fifth stays 20", x.judge(0, 0, 1), 4);
        }
    }

    private static void copyOverlaps() {
        c.promise(32, "copy");
        ArmAgainstArm x = judging();
        Check.sheet(x, 0, 2, 10, 15, 20, 25, 30);
        c.same("upwards", x.copy(0, 0, 0, 1, 4), 4);
        x.cell(0, 0, 5);
        c.same("as they were", x.judge(0, 0, 1), -1);
        Check.sheet(x, 0, 2, 0, 5, 10, 15, 20);
        c.same("downwards", x.copy(0, 1, 0, 0, 4), 4);
        x.cell(0, 4, 25);
        c.same("as they were", x.judge(0, 0, 1), -1);
        c.same("onto itself", x.copy(0, 0, 0, 0, 5), 5);
        c.same("as they were", x.judge(0, 0, 1), -1);
    }

    private static void copyRefuses() {
        c.promise(32, "copy");
        ArmAgainstArm x = judging();
        x.sheet(0, 2, 5);
        x.sheet(1, 1, 5);
        x.sheet(2, 2, 3);
        c.same("sheet -1", x.copy(-1, 0, 0, 0, 1), -2);
        c.same("other 4", x.copy(0, 0, 4, 0, 1), -2);
        c.same("other 4 ahead of nothing there", x.copy(3, 0, 4, 0, 1), -2);
        c.same("nothing there", x.copy(3, 0, 1, 0, 1), -11);
        c.same("nothing there, ahead of the place", x.copy(0, -1, 3, 0, 1), -11);
        c.same("unlike, ahead of the place", x.copy(0, -1, 1, 0, 1), -13);
        int[][] rows = {
            {0, 0, 2, 0, 4}, {0, 0, 2, 1, 3}, {0, 3, 2, 0, 3}, {0, -1, 2, 0, 1}, {0, 0, 2, -1, 1}, {0, 0, 2, 0, -1},
            {0, 6, 2, 0, 0}, {0, 0, 2, 4, 0}, {0, MAX, 2, 0, 1}, {0, 0, 2, MAX, 1}, {0, MAX, 2, MAX, MAX}, {0, 1, 2, 1, MAX},
            {0, MIN, 2, MIN, MIN}, {0, 0, 2, 0, MIN}, {0, 5, 2, 0, 1}, {0, 0, 2, 3, 1},
        };
        for (int[] r : rows) c.same("outside " + r[1] + " " + r[3] + " " + r[4], x.copy(r[0], r[1], r[2], r[3], r[4]), -12);
        c.same("just within", x.copy(0, 2, 2, 0, 3), 3);
        c.same("nothing, at the ends", x.copy(0, 5, 2, 3, 0), 0);
    }

    private static void armsBy() {
        c.promise(33, "armsBy");
        for (int sort = 0; sort < 3; sort++) {
            ArmAgainstArm x = new ArmAgainstArm();
            Check.sheet(x, 0, sort, 77, 5, 40, 9, 6, 1, 1, 0, 100, 0, 3, 99, 0, 1, 1, 10, 2, -1, 1, 4, 50, 5);
            c.same("none", x.armsBy(0, sort, 1, 0), 0);
            c.same("one", x.armsBy(0, sort, 1, 1), 1);
            c.same("one of four", x.armsBy(0, sort, 4, 4), 1);
            c.same("heavy", x.told(0, 2), 5);
            c.same("heavy", x.told(0, 3), 40);
            c.same("heavy", x.told(0, 4), 9);
            c.same("top", x.told(1, 2), 3);
            c.same("top", x.told(1, 3), 99);
            c.same("two of two, to the end", x.armsBy(0, sort, 16, 2), 1);
            c.same("hook", x.told(2, 2), 4);
            c.same("others are left out", x.count(0), 3);
            c.same("past the end", x.armsBy(0, sort, 19, 2), -12);
            c.same("what stood ahead came", x.count(0), 4);
            c.same("hook", x.told(3, 2), 4);
            c.same("three do not lie there", x.armsBy(0, sort, 20, 1), -12);
            c.same("none came", x.count(0), 4);
            Check.sheet(x, 1, sort, new int[18]);
            c.same("as many as have room", x.armsBy(1, sort, 0, 6), 2);
            c.same("FULL: left out", x.armsBy(1, sort, 0, 6), 0);
            c.same("FULL, then outside", x.armsBy(1, sort, 3, 6), -12);
        }
    }

    private static void armsByRefuses() {
        c.promise(33, "armsBy");
        ArmAgainstArm x = new ArmAgainstArm();
        x.sheet(0, 0, 40);
        for (int s : new int[] {-1, 4}) c.same("sheet " + s, x.armsBy(s, 0, 0, 1), -2);
        for (int sort : new int[] {-1, 3}) c.same("sort " + sort, x.armsBy(0, sort, 0, 1), -2);
        for (int n : new int[] {-1, 7, MIN, MAX}) c.same("n " + n, x.armsBy(0, 0, 0, n), -2);
        c.same("n ahead of nothing there", x.armsBy(1, 0, 0, 7), -2);
        c.same("nothing there", x.armsBy(1, 0, -1, 1), -11);
        c.same("of another sort, ahead of the place", x.armsBy(0, 1, -1, 1), -13);
        for (int at : new int[] {-1, -2, -3, 38, 39, 40, MIN, MAX, MAX - 1, MAX - 2}) {
            c.same("at " + at, x.armsBy(0, 0, at, 2), -12);
        }
        c.same("none came", x.count(0), 0);
        c.same("the last three", x.armsBy(0, 0, 37, 1), 1);
        c.same("the last three, and none behind", x.armsBy(0, 0, 37, 2), -12);
        c.same("what stood ahead came", x.count(0), 2);
    }

    private static void taken() {
        c.promise(34, "taken");
        ArmAgainstArm x = new ArmAgainstArm();
        for (int kind = 0; kind < 6; kind++) x.arm(kind, 0, 0);
        // Of each KIND (a row) whether it is one of each KIND (a place in the row).
        int[][] is = {{1, 0, 0, 0, 0, 0}, {1, 1, 0, 0, 0, 0}, {1, 0, 1, 0, 0, 0}, {1, 1, 0, 1, 0, 0}, {1, 0, 1, 0, 1, 0}, {1, 0, 0, 0, 0, 1}};
        for (int i = 0; i < 6; i++) {
            for (int kind = 0; kind < 6; kind++) {
                c.same("kind " + i + " as " + kind, x.taken(i, kind), is[i][kind] == 1 ? i : -13);
                c.same("hold as an arm", x.taken(6 + i, kind), -13);
            }
            c.same("an arm as hold", x.taken(i, 6), -13);
            c.same("hold", x.taken(6 + i, 6), 24);
        }
        for (int kind : new int[] {-1, 7, MIN, MAX}) c.same("kind, ahead of the place", x.taken(12, kind), -2);
        for (int i : new int[] {-1, 12, MIN, MAX}) c.same("place " + i, x.taken(i, 0), -12);
        x.set(2, 0, 0);
        x.set(3, 0, 1);
        c.same("no hold: nothing there, ahead of the kind", x.taken(8, 0), -11);
        c.same("no hold", x.taken(8, 6), -11);
        c.same("its arm is there", x.taken(2, 2), 2);
        c.same("hold 1", x.taken(9, 6), 1);
        ArmAgainstArm y = new ArmAgainstArm();
        for (int i = 0; i < 12; i++) for (int kind = 0; kind < 7; kind++) c.same("nothing there", y.taken(i, kind), -11);
        y.arm(0, 0, 0);
        c.same("no second arm", y.taken(1, 0), -11);
        c.same("no second arm's hold", y.taken(7, 6), -11);
    }
}
