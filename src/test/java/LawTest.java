/** Promises 1 to 6: a new object, count, feed, text, force, asks. */
final class LawTest {
    private static final Check c = new Check();

    public static void main(String[] args) {
        newObject();
        count();
        feed();
        textStands();
        textFaults();
        textOpen();
        textBehindFaults();
        textFull();
        textWorth();
        force();
        asks();
        asksBounds();
        asksRefuses();
        c.end();
    }

    private static void newObject() {
        c.promise(1, "a new object");
        ArmAgainstArm x = new ArmAgainstArm();
        c.same("arms", x.count(0), 0);
        c.same("texts", x.count(1), 1);
        c.same("the law", x.count(2), 0);
        c.same("bytes of the tape", x.count(3), 0);
        c.same("told of no arm", x.told(0, 0), -5);
        c.same("no image", x.back(), -3);
        for (int s = 0; s < 4; s++) c.same("sheet " + s + " missing", x.cell(s, 0, 0), -11);
        c.same("no rings", x.rings(0), 0);
        c.same("rest of nobody", x.rest(24), 0);
        x.arm(0, 1, 1);
        c.same("another object has no arms yet", new ArmAgainstArm().count(0), 0);
    }

    private static void count() {
        c.promise(2, "count");
        ArmAgainstArm x = new ArmAgainstArm();
        c.same("what -1", x.count(-1), -2);
        c.same("what 4", x.count(4), -2);
        x.arm(0, 0, 0);
        x.arm(5, 99, 9);
        x.force(Check.text(x, "force 1; spends 1; hurts 1;"));
        x.feed(3, 1, 2, 3, 4, 5);
        c.same("arms", x.count(0), 2);
        c.same("texts", x.count(1), 2);
        c.same("law", x.count(2), 1);
        c.same("bytes", x.count(3), 3);
        c.same("what far below", x.count(Integer.MIN_VALUE), -2);
        c.same("what far above", x.count(Integer.MAX_VALUE), -2);
    }

    private static void feed() {
        c.promise(3, "feed");
        ArmAgainstArm x = new ArmAgainstArm();
        c.same("n 0", x.feed(0, 1, 1, 1, 1, 1), -2);
        c.same("n 6", x.feed(6, 1, 1, 1, 1, 1), -2);
        c.same("n far below", x.feed(Integer.MIN_VALUE, 1, 1, 1, 1, 1), -2);
        c.same("n far above", x.feed(Integer.MAX_VALUE, 1, 1, 1, 1, 1), -2);
        for (int i = 0; i < 5; i++) {
            int[] v = {0, 0, 0, 0, 0};
            v[i] = 256;
            c.same("256 at " + i, x.feed(1, v[0], v[1], v[2], v[3], v[4]), -2);
            v[i] = -1;
            c.same("-1 at " + i, x.feed(5, v[0], v[1], v[2], v[3], v[4]), -2);
        }
        c.same("nothing came", x.count(3), 0);
        c.same("least and most", x.feed(1, 0, 255, 0, 255, 0), 1);
        c.same("two", x.feed(2, 255, 0, 255, 0, 255), 3);
        c.same("three", x.feed(3, 1, 1, 1, 1, 1), 6);
        c.same("four", x.feed(4, 1, 1, 1, 1, 1), 10);
        c.same("five", x.feed(5, 1, 1, 1, 1, 1), 15);
        for (int i = 0; i < 28; i++) x.feed(5, 32, 32, 32, 32, 32);
        c.same("155", x.count(3), 155);
        c.same("156", x.feed(1, 32, 0, 0, 0, 0), 156);
        c.same("no room for five", x.feed(5, 1, 1, 1, 1, 1), -4);
        c.same("none came", x.count(3), 156);
        c.same("BAD ahead of FULL", x.feed(5, 1, 1, 1, 1, 256), -2);
        c.same("four have room", x.feed(4, 1, 1, 1, 1, 1), 160);
        c.same("one has none", x.feed(1, 1, 1, 1, 1, 1), -4);
        orderOfBytes();
    }

    private static void orderOfBytes() {
        ArmAgainstArm x = new ArmAgainstArm();
        String text = "force 123;spends 4+5;hurts 67;";
        for (int i = 0; i < text.length(); i += 5) {
            x.feed(5, text.charAt(i), text.charAt(i + 1), text.charAt(i + 2), text.charAt(i + 3), text.charAt(i + 4));
        }
        x.force(x.text());
        x.arm(0, 0, 0);
        c.same("bytes as they came", x.asks(0, 0, 0, 0, 0), 123);
        c.same("bytes as they came, spends", x.asks(1, 0, 0, 0, 0), 9);
        c.same("bytes as they came, hurts", x.asks(2, 0, 0, 0, 0), 67);
    }

    private static void textStands() {
        c.promise(4, "text");
        ArmAgainstArm x = new ArmAgainstArm();
        c.same("the first", Check.text(x, "force 1;spends 2;hurts 3;"), 1);
        c.same("tape is empty", x.count(3), 0);
        c.same("blanks", Check.text(x, "\n force\n 1 ;  spends 2;\nhurts 3 ; \n"), 2);
        c.same("as a law", x.force(2), 0);
        c.same("a fault", Check.text(x, "force"), -105);
        c.same("tape is empty, by a fault, too", x.count(3), 0);
        c.same("a fault is no text", x.count(1), 3);
        c.same("no blanks where none are needed", Check.text(x, "force 2*told-1or 3and 4;spends(1);hurts-1;"), 3);
        c.same("an empty tape", x.text(), -100);
        c.same("the law stays", x.count(2), 2);
    }

    private static void textFaults() {
        c.promise(4, "text");
        Object[][] rows = {
            {"", 0}, {" ", 1}, {"a", 0}, {"force", 5}, {"force ", 6}, {"force 1", 7}, {"force 1;", 8},
            {"force 1; spends 2; hurts 3", 26}, {"force 1; spends 2; hurts 3;", -1},
            {"force 1; spends 2; hurts 3; ", -1}, {"force 1; spends 2; hurts 3; ;", 28},
            {"force 1; spends 2; hurts 3; force", 28}, {"spends 1;", 0}, {"force 1; hurts 2;", 9},
            {"force force;", 6}, {"force ;", 6}, {"force 1 2;", 8}, {"force told hold;", 11},
            {"force 12345;", 6}, {"force 01234;", 6}, {"force 1234; spends 2; hurts 3;", -1},
            {"force 0000; spends 2; hurts 3;", -1}, {"forcetold;", 0}, {"force tol;", 6}, {"force tolds;", 6},
            {"force orr;", 6}, {"Force", 0}, {"force Told", 6}, {"force 1\t;", 7}, {"force 1\r;", 7},
            {"force 1 > 2;", 8}, {"force 1 / 2;", 8}, {"force \u00e4", 6}, {"\0", 0}, {"\u00ff", 0},
            {"force 1 < 2 < 3;", 12}, {"force 1 = 2 = 3;", 12}, {"force 1 < 2 = 3;", 12},
            {"force (1 < 2) < 3; spends 0; hurts 0;", -1}, {"force 1 < not 2;", 10}, {"force 1 + not 2;", 10},
            {"force - not 2;", 8}, {"force not;", 9}, {"force not not 1; spends 0; hurts 0;", -1},
            {"force 1 or not 2 and not 3; spends 0; hurts 0;", -1}, {"force or 1;", 6}, {"force 1 or;", 10},
            {"force 1 and and;", 12}, {"force (1;", 8}, {"force 1);", 7}, {"force ();", 7}, {"force (1;)", 8},
            {"force (1", 8}, {"force * 1;", 6}, {"force + 1;", 6}, {"force 1 + ;", 10}, {"force 1 - - 1; spends 0; hurts 0;", -1},
            {"force 1 * - 1; spends 0; hurts 0;", -1}, {"force 1 - * 1;", 10}, {"force 1 = ;", 10}, {"force = 1;", 6},
            {"force 1 + 2 < 3 * 4 + 5; spends 0; hurts 0;", -1}, {"force 1 < 2 and 3 < 4 or 5 = 6; spends 0; hurts 0;", -1},
            {"force 1a;", 7}, {"force told1;", 10}, {"force not(1)1;", 12}, {"force 1; spends 2; hurts 3; $", 28},
            {"force 1 1 $", 8}, {"force hurts", 6}, {"force 1 force", 8},
        };
        for (Object[] row : rows) c.same("fault of '" + row[0] + "'", Check.fault((String) row[0]), (Integer) row[1]);
    }

    private static void textOpen() {
        c.promise(4, "text");
        String end = "; spends 0; hurts 0;";
        Object[][] rows = {
            {"force (((((1)))))" + end, -1}, {"force ((((((1))))))" + end, 11},
            {"force -----1" + end, -1}, {"force ------1" + end, 11},
            {"force not not not not not 1" + end, -1}, {"force not not not not not not 1" + end, 26},
            {"force not not not not not 1 < (2)" + end, 30}, {"force not not not not not 1 < -2" + end, 30},
            {"force not not not not not 1 - 2" + end, -1}, {"force not not not not not 1 and (1)" + end, -1},
            {"force not not not not not 1 or -1" + end, -1}, {"force -----1 + (((((1)))))" + end, -1},
            {"force -----1 * -1" + end, -1}, {"force not(-(-1))" + end, -1}, {"force not(-(-(1)))" + end, 13},
            {"force not(-(1 + 1) + -(1)) and ((-(-1)))" + end, -1},
            {"force not(-(1 + 1) + -(1)) + ((-(-1)))" + end, 33}, {"force (((((1) + (1)))))" + end, -1},
            {"force -(((1 + -(1)))) " + end, 15}, {"force ((not (1 and not (1))))" + end, 23},
            {"force ((not (1) and not (1)))" + end, -1}, {"force (not (not (1)))" + end, -1},
            {"force (not (not (not 1)))" + end, 17}, {"force (not (not (1)) and not (not (1)))" + end, -1}, {"force (((((not 1)))))" + end, 11},
            {"force (((((1 - 1)))))" + end, -1}, {"force (((((1 - -1)))))" + end, 15},
        };
        for (Object[] row : rows) c.same("fault of '" + row[0] + "'", Check.fault((String) row[0]), (Integer) row[1]);
    }

    private static void textBehindFaults() {
        c.promise(4, "text");
        ArmAgainstArm x = new ArmAgainstArm();
        StringBuilder sums = new StringBuilder("force 1");
        while (sums.length() < 150) sums.append("+1");
        for (int i = 0; i < 2; i++) c.same("a long fault", Check.text(x, sums + ";spends"), -100 - sums.length() - 7);
        c.same("a text behind them", Check.text(x, "force 3+4;spends 2+3;hurts 5*6;"), 1);
        x.force(1);
        x.arm(0, 0, 0);
        c.same("force", x.asks(0, 0, 0, 0, 0), 7);
        c.same("spends", x.asks(1, 0, 0, 0, 0), 5);
        c.same("hurts", x.asks(2, 0, 0, 0, 0), 30);
    }

    private static void textFull() {
        c.promise(4, "text");
        ArmAgainstArm x = new ArmAgainstArm();
        for (int i = 1; i <= 5; i++) c.same("text " + i, Check.text(x, "force 1;spends 2;hurts 3;"), i);
        c.same("FULL of an empty tape", x.text(), -4);
        Check.feed(x, "force 1;spends 2;hurts 3;");
        c.same("FULL", x.text(), -4);
        c.same("the tape stays", x.count(3), 25);
        c.same("six texts", x.count(1), 6);
        c.same("FULL again", x.text(), -4);
        x = new ArmAgainstArm();
        StringBuilder most = new StringBuilder("force 1;spends 2;hurts 3");
        while (most.length() < 159) most.append(' ');
        c.same("a text of 160 bytes", Check.text(x, most + ";"), 1);
        c.same("a text of 160 bytes that ends too early", Check.text(x, most + " "), -260);
        StringBuilder sums = new StringBuilder("force 1");
        while (sums.length() < 140) sums.append("+1");
        c.same("a long sum", Check.text(x, sums + ";spends 2;hurts 3;"), 2);
        x.force(2);
        x.arm(0, 0, 0);
        c.same("a long sum's worth", x.asks(0, 0, 0, 0, 0), sums.length() / 2 - 2);
    }

    private static void textWorth() {
        c.promise(4, "text");
        Object[][] rows = {
            {"told", 7}, {"more", 3}, {"hold", 20}, {"hard", 2}, {"100 + angle", 96}, {"tenth", 31},
            {"2 + 3 * 4", 14}, {"(2 + 3) * 4", 20}, {"10 - 3 - 2", 5}, {"10 - (3 - 2)", 9}, {"2 * 3 * 4", 24},
            {"1 + 2 < 4", 1}, {"4 < 1 + 2", 0}, {"3 < 3", 0}, {"3 = 3", 1}, {"3 = 4", 0}, {"- 3 < 2", 1},
            {"not 0", 1}, {"not 5", 0}, {"not not 5", 1}, {"not 1 < 2", 0}, {"(not 1) < 2", 1}, {"not 0 + 1", 0},
            {"5 or 0", 1}, {"0 or 5", 1}, {"0 or 0", 0}, {"5 and 3", 1}, {"5 and 0", 0}, {"0 and 5", 0}, {"2 and 4", 1},
            {"(2 and 4) * 5", 5}, {"(0 or 4) * 5", 5}, {"(4 or 0) * 5", 5}, {"(1 and 0) + 5", 5}, {"(not 0) * 5", 5},
            {"1 or 0 and 0", 1}, {"(1 or 0) and 0", 0}, {"not 1 or 1", 1}, {"not (1 or 1)", 0}, {"not 0 and 0", 0},
            {"0 - -3", 3}, {"- - 3", 3}, {"-2 * -3", 6}, {"5 - 2 * 2", 1}, {"-(2 - 9)", 7}, {"7 = told and 3 = more", 1},
            {"(1 < 2) = 1", 1}, {"(1 < 2) + (2 < 3) + (3 < 4)", 3}, {"0010", 10}, {"9999 - 9900", 99},
            {"(9999*9999*22 < 0) * 5", 5}, {"(9999*9999*21 < 0) * 5", 0}, {"9999*9999*43 - 4172 * 1000 - 600", 147},
            {"5", 5}, {"told * more", 21}, {"(told)", 7},
        };
        for (Object[] row : rows) c.same("worth of '" + row[0] + "'", Check.worth((String) row[0]), (Integer) row[1]);
    }

    private static void force() {
        c.promise(5, "force");
        ArmAgainstArm x = new ArmAgainstArm();
        x.arm(0, 50, 0);
        c.same("-1", x.force(-1), -2);
        c.same("1, not yet there", x.force(1), -2);
        c.same("far above", x.force(Integer.MAX_VALUE), -2);
        c.same("far below", x.force(Integer.MIN_VALUE), -2);
        c.same("0 was", x.force(0), 0);
        Check.text(x, "force 1;spends 2;hurts 3;");
        Check.text(x, "force 4;spends 5;hurts 6;");
        c.same("a text is not the law of itself", x.count(2), 0);
        c.same("0 was, 2 is", x.force(2), 0);
        c.same("the law is 2", x.count(2), 2);
        c.same("says so", x.asks(0, 0, 0, 0, 0), 4);
        c.same("3 is not there", x.force(3), -2);
        c.same("2 was, 1 is", x.force(1), 2);
        c.same("says so", x.asks(0, 0, 0, 0, 0), 1);
        c.same("1 was, 0 is", x.force(0), 1);
        c.same("says so", x.asks(0, 0, 0, 0, 0), 50);
    }

    private static void asks() {
        c.promise(6, "asks");
        ArmAgainstArm x = new ArmAgainstArm();
        x.arm(0, 40, 0);
        x.arm(5, 60, 9);
        x.arm(3, 60, 9);
        c.same("force: told, hard by 6, hold", x.asks(0, 0, 243, 5, 7), 40 + 18 + 24);
        c.same("force", x.asks(0, 0, 0, 5, 7), 40);
        c.same("force, not as the kind has it", x.asks(0, 1, 201, -30, 40), 60 + 6 + 20);
        c.same("force, not as the kind has it", x.asks(0, 2, 240, 30, 0), 60 + 24);
        c.same("spends: hard", x.asks(1, 0, 243, 5, 7), 3);
        c.same("spends, not as the kind has it", x.asks(1, 1, 3, 5, 7), 3);
        c.same("spends, not as the kind has it", x.asks(1, 2, 3, 5, 7), 3);
        c.same("hurts: below the line", x.asks(2, 0, 243, -5, 7), 5);
        c.same("hurts: bound 0", x.asks(2, 0, 243, 5, 7), 0);
        c.same("hurts: -30", x.asks(2, 0, 243, -30, 7), 30);
        c.same("hold stays", x.told(0, 0), 24);
        x.force(Check.text(x, "force hold*4+hard;spends more;hurts tenth+angle;"));
        c.same("hold and hard", x.asks(0, 0, 132, 0, 0), 54);
        c.same("more", x.asks(1, 1, 0, 0, 0), 9);
        c.same("tenth and angle", x.asks(2, 0, 0, 30, 40), 70);
        c.same("tenth and angle", x.asks(2, 0, 0, -30, 31), 1);
    }

    private static void asksBounds() {
        c.promise(6, "asks");
        ArmAgainstArm x = Check.under("force 200;spends 9;hurts 100;");
        x.arm(0, 0, 0);
        for (int part = 0; part < 3; part++) c.same("the most", x.asks(part, 0, 0, 0, 0), new int[] {200, 9, 100}[part]);
        x.force(Check.text(x, "force 201;spends 10;hurts 101;"));
        for (int part = 0; part < 3; part++) c.same("above it", x.asks(part, 0, 0, 0, 0), new int[] {200, 9, 100}[part]);
        x.force(Check.text(x, "force 0-1;spends 0-1;hurts 0-1;"));
        for (int part = 0; part < 3; part++) c.same("below 0", x.asks(part, 0, 0, 0, 0), 0);
        x.force(Check.text(x, "force 199;spends 8;hurts 99;"));
        for (int part = 0; part < 3; part++) c.same("within", x.asks(part, 0, 0, 0, 0), new int[] {199, 8, 99}[part]);
    }

    private static void asksRefuses() {
        c.promise(6, "asks");
        ArmAgainstArm x = new ArmAgainstArm();
        c.same("no arm yet", x.asks(0, 0, 0, 0, 0), -5);
        x.arm(0, 40, 0);
        c.same("no arm ahead of others", x.asks(3, 1, 4, 31, 41), -5);
        c.same("arm -1", x.asks(0, -1, 0, 0, 0), -5);
        c.same("part -1", x.asks(-1, 0, 0, 0, 0), -7);
        c.same("part 3", x.asks(3, 0, 0, 0, 0), -7);
        c.same("hard 4", x.asks(0, 0, 4, 0, 0), -7);
        c.same("hard 9", x.asks(0, 0, 109, 0, 0), -7);
        c.same("hold 25", x.asks(0, 0, 250, 0, 0), -7);
        c.same("hold 24, hard 4", x.asks(0, 0, 244, 0, 0), -7);
        c.same("below 0", x.asks(0, 0, -1, 0, 0), -7);
        c.same("far below", x.asks(0, 0, Integer.MIN_VALUE, 0, 0), -7);
        c.same("far above", x.asks(0, 0, Integer.MAX_VALUE, 0, 0), -7);
        c.same("angle -31", x.asks(0, 0, 0, -31, 0), -7);
        c.same("angle 31", x.asks(0, 0, 0, 31, 0), -7);
        c.same("tenth -1", x.asks(0, 0, 0, 0, -1), -7);
        c.same("tenth 41", x.asks(0, 0, 0, 0, 41), -7);
        c.same("tenth 40", x.asks(0, 0, 0, 30, 40), 40);
        c.same("angle -30", x.asks(2, 0, 0, -30, 0), 30);
    }
}
