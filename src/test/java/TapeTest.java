/** THE TAPE, TOKENS, FAULTS, what an E is: each sentence of "Terms" about them at its bounds (promises 3 and 4). */
final class TapeTest {
    private static final Check c = new Check();
    private static final String END = ";spends 0;hurts 0;";

    public static void main(String[] args) {
        room();
        eachByte();
        numbers();
        words();
        signs();
        faultOfEachSort();
        early();
        open();
        openMixed();
        openTill();
        wraps();
        truth();
        textsFull();
        c.end();
    }

    private static void blanks(ArmAgainstArm x, int n) {
        for (int i = 0; i < n / 5; i++) x.feed(5, 32, 32, 32, 32, 32);
        for (int i = 0; i < n % 5; i++) x.feed(1, 32, 32, 32, 32, 32);
    }

    // ---- THE TAPE

    private static void room() {
        c.terms("THE TAPE (160 bytes at most)");
        for (int n = 1; n <= 5; n++) {
            ArmAgainstArm x = new ArmAgainstArm();
            c.same("empty", x.count(3), 0);
            blanks(x, 160 - n);
            c.same(n + " have just room", x.feed(n, 32, 32, 32, 32, 32), 160);
            c.same("full", x.feed(1, 32, 32, 32, 32, 32), -4);
            c.same("160", x.count(3), 160);
            c.same("all blanks, ends too early", x.text(), -260);
            c.same("empty behind it", x.count(3), 0);
            blanks(x, 161 - n);
            c.same(n + " have not all room", x.feed(n, 32, 32, 32, 32, 32), -4);
            c.same("none came", x.count(3), 161 - n);
            if (n > 1) c.same("one fewer has", x.feed(n - 1, 32, 32, 32, 32, 32), 160);
        }
        ArmAgainstArm x = new ArmAgainstArm();
        c.same("a text of no bytes", x.text(), -100);
        String text = "force 1;spends 2;hurts 3;";
        blanks(x, 160 - text.length());
        c.same("a text of 160 bytes, blanks ahead", Check.text(x, text), 1);
        Check.feed(x, text);
        blanks(x, 160 - text.length());
        c.same("blanks behind", x.text(), 2);
        blanks(x, 159);
        x.feed(1, '$', 0, 0, 0, 0);
        c.same("a FAULT at the last place", x.text(), -259);
    }

    /** Each byte behind "force 1": what is taken there, and what is wrong where. */
    private static void eachByte() {
        c.promise(4, "text");
        for (int v = 0; v < 256; v++) {
            ArmAgainstArm x = new ArmAgainstArm();
            Check.feed(x, "force 1");
            c.same("feed of " + v, x.feed(1, v, 0, 0, 0, 0), 8);
            Check.feed(x, " " + END);
            boolean taken = v == 32 || v == 10 || v >= '0' && v <= '9';
            boolean wantsMore = v == '+' || v == '-' || v == '*' || v == '<' || v == '=' || v == ';';
            c.same("behind a NUMBER the byte " + v, x.text(), taken ? 1 : wantsMore ? -109 : -107);
            c.same("nothing stays", x.count(3), 0);
        }
        for (int v = 0; v < 256; v++) {
            ArmAgainstArm x = new ArmAgainstArm();
            x.feed(1, v, 0, 0, 0, 0);
            Check.feed(x, " force 1" + END);
            c.same("ahead of all the byte " + v, x.text(), v == 32 || v == 10 ? 1 : -100);
        }
        for (int v = 0; v < 256; v++) {
            ArmAgainstArm x = new ArmAgainstArm();
            Check.feed(x, "force 1" + END);
            x.feed(1, v, 0, 0, 0, 0);
            c.same("behind all the byte " + v, x.text(), v == 32 || v == 10 ? 1 : -125);
        }
    }

    // ---- TOKENS

    private static void numbers() {
        c.terms("NUMBERS (as many digits as stand there; more than 4 are too long)");
        Object[][] rows = {
            {"0", -1}, {"9", -1}, {"9999", -1}, {"0000", -1}, {"0009", -1}, {"10000", 6}, {"00000", 6}, {"99999", 6},
            {"2147483648", 6}, {"4294967296", 6}, {"18446744073709551616", 6}, {"1+10000", 8}, {"1 0000", 8}, {"(10000)", 7},
            {"-10000", 7}, {"9999 9", 11}, {"9999\n", -1}, {"9999told", 10}, {"10000told", 6},
        };
        for (Object[] row : rows) fault("force " + row[0] + END, (Integer) row[1]);
        fault("force " + "1".repeat(154), 6);
        fault("force 1" + END + "2", 25);
        fault("force 1" + END + "23456", 25);
        c.same("9999", Check.worth("9999-9800"), 199);
        c.same("0012", Check.worth("0012"), 12);
    }

    private static void words() {
        c.terms("WORDS (as many letters a .. z as stand there), KEYS, NAMES");
        for (String name : new String[] {"told", "more", "hold", "hard", "angle", "tenth"}) {
            fault("force " + name + END, -1);
            fault("force " + name + "s" + END, 6);
            fault("force " + name.substring(1) + END, 6);
            fault("force " + name.substring(0, name.length() - 1) + END, 6);
            fault("force " + name + name + END, 6);
            fault("force " + name.toUpperCase() + END, 6);
            fault("force 1+" + name + "z" + END, 8);
            fault(name + " 1" + END, 0);
            fault("force 1 " + name + END, 8);
        }
        for (String key : new String[] {"force", "spends", "hurts", "or", "and"}) {
            fault("force " + key + END, 6);
            fault("force (" + key + ")" + END, 7);
            if (key.length() > 3) fault("force 1 " + key + END, 8);
        }
        for (String key : new String[] {"forc", "forces", "xforce", "spends", "hurts", "or", "and", "not", "forceforce"}) fault(key + " 1" + END, 0);
        fault("force 1;spend 0;hurts 0;", 8);
        fault("force 1;hurts 0;", 8);
        fault("force 1;force 0;", 8);
        fault("force 1;spends 0;hurt 0;", 17);
        fault("force 1;spends 0;spends 0;", 17);
        fault("force 1" + END + "force", 25);
        fault("force " + "z".repeat(154), 6);
        fault("force not1" + END, -1);
        fault("force 1or 1" + END, -1);
        fault("force 1 or1" + END, -1);
        fault("force 1 orz" + END, 8);
        fault("force\n1\n;\nspends\n0\n;\nhurts\n0\n;\n", -1);
    }

    private static void signs() {
        c.terms("SIGNS ( ) ; + - * < =");
        for (String sign : new String[] {"+", "-", "*", "<", "="}) {
            fault("force 1" + sign + "2" + END, -1);
            fault("force 1 " + sign + " 2" + END, -1);
            fault("force 1" + sign + END, 8);
            fault("force 1" + sign + ")" + END, 8);
            if (!sign.equals("-")) fault("force " + sign + "1" + END, 6);
            if (!sign.equals("-")) fault("force 1+" + sign + "1" + END, 8);
            fault("force 1" + sign + "not 1" + END, 8);
            fault("force 1" + END + sign, 25);
        }
        for (String sign : new String[] {">", "/", "%", "!", "&", "|", ",", ".", ":", "?", "^", "~", "[", "]", "{", "}", "`", "@", "_", "\"", "'", "#", "$", "\\"}) {
            fault("force 1" + sign + "2" + END, 7);
            fault("force " + sign + END, 6);
        }
        fault("force 1<2<3" + END, 9);
        fault("force 1=2=3" + END, 9);
        fault("force 1<=2" + END, 8);
        fault("force 1==2" + END, 8);
        fault("force (1<2)<3" + END, -1);
        fault("force 1<(2<3)" + END, -1);
        fault("force 1<2 and 2<3" + END, -1);
        fault("force 1<2 or 2=3" + END, -1);
    }

    // ---- FAULTS

    /** Where the FAULT is (-1: none), that THE TAPE is empty then, and that a further TEXT comes as if nothing had been. */
    private static void fault(String bytes, int place) {
        ArmAgainstArm x = new ArmAgainstArm();
        c.same("FAULT of '" + bytes + "'", Check.text(x, bytes), place < 0 ? 1 : -100 - place);
        c.same("THE TAPE behind '" + bytes + "'", x.count(3), 0);
        c.same("TEXTS behind '" + bytes + "'", x.count(1), place < 0 ? 2 : 1);
        c.same("THE LAW behind '" + bytes + "'", x.count(2), 0);
        int t = Check.text(x, "force 23;spends 4;hurts 56;");
        c.same("a further one", t, place < 0 ? 2 : 1);
        x.force(t);
        x.arm(0, 0, 0);
        c.same("its force", x.asks(0, 0, 0, 0, 0), 23);
        c.same("its spends", x.asks(1, 0, 0, 0, 0), 4);
        c.same("its hurts", x.asks(2, 0, 0, 0, 0), 56);
    }

    private static void faultOfEachSort() {
        c.terms("FAULT: the place of the first byte of the first TOKEN that can't stand there");
        Object[][] rows = {
            {"force 1 1" + END, 8}, {"force told hold" + END, 11}, {"force (1" + END, 8}, {"force 1)" + END, 7}, {"force ()" + END, 7},
            {"force 1 (2)" + END, 8}, {"force (1)(2)" + END, 9}, {"force (1) 2" + END, 10}, {"force ;" + END, 6}, {"; force 1" + END, 0},
            {"force 1;;" + END, 8}, {"force 1 not 2" + END, 8}, {"force 1 and" + END, 11}, {"force 1 or or 2" + END, 11}, {"force not" + END, 9},
            {"force -" + END, 7}, {"force (not)" + END, 10}, {"force -not 1" + END, 7}, {"force 1*not 1" + END, 8}, {"force (1<2" + END, 10},
            {"force 1" + END + "told", 25}, {"force 1" + END + " \n ;", 28}, {"force 1" + END + "force 1" + END, 25},
            // The first of several, of whatever sorts.
            {"force 1 1 $" + END, 8}, {"force 1 $ 1" + END, 8}, {"force zzz 12345" + END, 6}, {"force 12345 zzz" + END, 6}, {"force ------1 $" + END, 11},
            {"force 1 1 ((((((1" + END, 8}, {"$ force", 0}, {" \n$", 2},
        };
        for (Object[] row : rows) fault((String) row[0], (Integer) row[1]);
    }

    private static void early() {
        c.terms("the text's size, if it ends too early");
        String whole = "force ( told or - 12 ) ;spends not 3 <4;hurts 5+more*6;";
        fault(whole, -1);
        for (int size = 0; size < whole.length(); size++) {
            String part = whole.substring(0, size);
            // A WORD that is cut off may be no KEY or NAME any more; of 12 also 1 is left.
            int word = part.length();
            while (word > 0 && part.charAt(word - 1) >= 'a' && part.charAt(word - 1) <= 'z') word--;
            String last = part.substring(word);
            boolean known = last.isEmpty() || java.util.List.of("force", "spends", "hurts", "told", "more", "or", "not").contains(last);
            fault(part, known ? size : word);
            if (known) fault(part + " \n ", size + 3);
        }
    }

    // ---- what is open

    private static void open() {
        c.terms("a ( , a not, a - ahead of a ONE while 5 of these are open");
        String[] openers = {"(", "not ", "-"};
        String[] closers = {")", "", ""};
        for (int i = 0; i < 3; i++) {
            for (int n = 0; n <= 8; n++) {
                String text = "force " + openers[i].repeat(n) + "1" + closers[i].repeat(n) + END;
                fault(text, n <= 5 ? -1 : 6 + 5 * openers[i].length());
            }
        }
    }

    /** All rows of six of ( not - : a not behind a - can't stand there, else the sixth is one too many. */
    private static void openMixed() {
        String[] openers = {"(", "not ", "-"};
        for (int row = 0; row < 729; row++) {
            StringBuilder ahead = new StringBuilder("force "), behind = new StringBuilder();
            int place = -1, last = -1;
            for (int i = 0, rest = row; i < 6; i++, rest /= 3) {
                int one = rest % 3;
                if (place < 0 && (i == 5 || one == 1 && last == 2)) place = ahead.length();
                ahead.append(openers[one]);
                if (one == 0) behind.append(')');
                last = one;
                if (i == 4) c.same("five: " + ahead, Check.fault(ahead + "1" + behind + END), place);
            }
            c.same("six: " + ahead, Check.fault(ahead + "1" + behind + END), place);
        }
    }

    private static void openTill() {
        c.terms("(a ( till its ) , not and - till what they belong to ends)");
        Object[][] rows = {
            // Behind the ) five more.
            {"force (((((1)))))+(((((1)))))" + END, -1}, {"force (((((1))))+1)" + END, -1}, {"force (((((1))))+(1))" + END, -1},
            {"force (((((1))))+((((1)))))" + END, -1}, {"force (((((1))))+(((((1))))))" + END, 21}, {"force ((((1+(1)+(1)))))" + END, -1}, {"force ((((1+(1)+((1))))))" + END, 17},
            // A - till its ONE ends.
            {"force -----1+-----1" + END, -1}, {"force -----1*-----1" + END, -1}, {"force -----1------1" + END, -1}, {"force -----1-------1" + END, 18},
            {"force -----(1)" + END, 11}, {"force ----(1)" + END, -1}, {"force ----(1+-1)" + END, 13}, {"force ----(1)+-1" + END, -1},
            // A not till its NOT ends: with the SUM behind a < or = .
            {"force not not not not not 1 + -1" + END, 30}, {"force not not not not 1 + -1" + END, -1}, {"force not not not not 1 + --1" + END, 27},
            {"force not not not not 1 < -1 + -1" + END, -1}, {"force not not not not 1 < --1" + END, 27}, {"force not not not not not 1 = 2 * (3)" + END, 34},
            {"force not not not not not 1 and not not not not not 1" + END, -1}, {"force not not not not not 1 or (((((1)))))" + END, -1},
            {"force not not not not not 1 and not not not not not not 1" + END, 52},
            // In a ( ) the not ends with it.
            {"force (((not not 1)+(1)))" + END, -1}, {"force (((not not 1 < (1))))" + END, 21}, {"force (((not (1) and (1))))" + END, -1},
            {"force (((not (1) and ((1)))))" + END, -1}, {"force (((not (1) and (((1))))))" + END, 23},
        };
        for (Object[] row : rows) fault((String) row[0], (Integer) row[1]);
        // None stays open for the next part, or the next TEXT.
        fault("force (((((1)))));spends (((((1)))));hurts not not not not not 1;", -1);
        fault("force not not not not not 1;spends -----1;hurts (((((1)))));", -1);
        ArmAgainstArm x = new ArmAgainstArm();
        c.same("five open at its end", Check.text(x, "force (((((1"), -112);
        c.same("none open in the next", Check.text(x, "force (((((1)))))" + END), 1);
        c.same("one too many", Check.text(x, "force ((((((1"), -111);
        c.same("none open in the next", Check.text(x, "force -----1" + END), 2);
    }

    // ---- what an E is

    private static void wraps() {
        c.terms("An E is an int (32 bits, wrapping)");
        String least = "2048*1024*1024", greatest = "(2048*1024*1024-1)";
        Object[][] rows = {
            {least + "<0", 1}, {least + "=-" + "(" + least + ")", 1}, {"-(" + least + ")<0", 1}, {greatest + "<0", 0}, {greatest + "+1<0", 1},
            {greatest + "+1=" + least, 1}, {least + "-1=" + greatest, 1}, {least + "<" + greatest, 1}, {greatest + "<" + least, 0},
            {least + "*2=0", 1}, {greatest + "*2=-2", 1}, {greatest + "*" + greatest + "=1", 1}, {"4096*1024*1024", 0}, {"4096*1024*1024+7", 7},
            {"4096*1024*1024*9999=0", 1}, {least + "+" + least + "+5", 5}, {least + "*-1<0", 1},
            {"0-" + greatest + "-1=" + least, 1}, {"0-" + greatest + "-2=" + greatest, 1},
        };
        for (Object[] row : rows) c.same("worth of '" + row[0] + "'", Check.worth((String) row[0]), (Integer) row[1]);
        int wrapped = 9999 * 9999 * 9999 * 9999;
        c.same("9999 to the 4th", Check.worth("(9999*9999*9999*9999=" + spelt(wrapped) + ")*7"), 7);
        c.same("as bounded: far above", Check.worth(greatest), 200);
        c.same("as bounded: far below", Check.worth(least), 0);
    }

    /** A number as an E of NUMBERS of four digits. */
    private static String spelt(int v) {
        return "(" + v / 1000000 + "*1000*1000+" + v / 1000 % 1000 + "*1000+" + v % 1000 + ")";
    }

    private static void truth() {
        c.terms("of or, and, not, <, = 1 or 0 (what is not 0 is true)");
        String[] values = {"0", "1", "2", "-1", "(2048*1024*1024)", "9999", "(0-9999)"};
        int[] is = {0, 1, 2, -1, Integer.MIN_VALUE, 9999, -9999};
        for (int i = 0; i < values.length; i++) {
            for (int j = 0; j < values.length; j++) {
                String x = values[i], y = values[j];
                c.same(x + " or " + y, Check.worth("(" + x + " or " + y + ")*9"), is[i] != 0 || is[j] != 0 ? 9 : 0);
                c.same(x + " and " + y, Check.worth("(" + x + " and " + y + ")*9"), is[i] != 0 && is[j] != 0 ? 9 : 0);
                c.same(x + " < " + y, Check.worth("(" + x + " < " + y + ")*9"), is[i] < is[j] ? 9 : 0);
                c.same(x + " = " + y, Check.worth("(" + x + " = " + y + ")*9"), is[i] == is[j] ? 9 : 0);
            }
            c.same("not " + values[i], Check.worth("(not " + values[i] + ")*9"), is[i] == 0 ? 9 : 0);
            c.same("not not " + values[i], Check.worth("(not not " + values[i] + ")*9"), is[i] == 0 ? 0 : 9);
        }
    }

    // ---- TEXTS

    private static void textsFull() {
        c.terms("TEXTS are numbered from 0 on, 6 at most");
        ArmAgainstArm x = new ArmAgainstArm();
        c.same("one at first", x.count(1), 1);
        c.same("TEXT 0 is there", x.force(0), 0);
        c.same("no TEXT 1", x.force(1), -2);
        for (int t = 1; t < 6; t++) {
            c.same("a FAULT", Check.text(x, "force"), -105);
            c.same("a TEXT", Check.text(x, "force " + t + ";spends 0;hurts 0;"), t);
            c.same("so many", x.count(1), t + 1);
            c.same("no further one", x.force(t + 1), -2);
        }
        c.same("FULL, THE TAPE empty", x.text(), -4);
        c.same("empty", x.count(3), 0);
        x.feed(1, '$', 0, 0, 0, 0);
        c.same("FULL ahead of the FAULT", x.text(), -4);
        c.same("THE TAPE stays", x.count(3), 1);
        blanks(x, 159);
        c.same("FULL, THE TAPE too", x.text(), -4);
        c.same("THE TAPE stays", x.count(3), 160);
        c.same("six", x.count(1), 6);
        x.arm(0, 0, 0);
        for (int t = 5; t >= 1; t--) {
            x.force(t);
            c.same("TEXT " + t + " stays", x.asks(0, 0, 0, 0, 0), t);
        }
        x.force(0);
        c.same("TEXT 0 stays", x.asks(0, 0, 213, 0, 0), 21 + 18);
    }
}
