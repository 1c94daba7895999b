/** Counts what is as due, tells what isn't, and makes objects ready for a test. */
final class Check {
    private int passed, failed;
    private String promise = "";

    void promise(int number, String call) {
        promise = "promise " + number + " (" + call + ")";
    }

    /** A sentence of the document's "Terms". */
    void terms(String sentence) {
        promise = "terms (" + sentence + ")";
    }

    void same(String what, long got, long want) {
        if (got == want) {
            passed++;
        } else {
            failed++;
            System.out.println(promise + ": " + what + " answered " + got + ", due is " + want);
        }
    }

    void that(String what, boolean so) {
        same(what, so ? 1 : 0, 1);
    }

    void end() {
        System.out.println(passed + " passed, " + failed + " failed");
        if (failed > 0) System.exit(1);
    }

    /** Feeds a text byte by byte; what is behind it stays to be called. */
    static void feed(ArmAgainstArm x, String bytes) {
        for (int i = 0; i < bytes.length(); i++) x.feed(1, bytes.charAt(i), 0, 0, 0, 0);
    }

    static int text(ArmAgainstArm x, String bytes) {
        feed(x, bytes);
        return x.text();
    }

    /** A new object whose law is the text. */
    static ArmAgainstArm under(String law) {
        ArmAgainstArm x = new ArmAgainstArm();
        x.force(text(x, law));
        return x;
    }

    /** What a law whose force is the E says of an ARM with told 7, more 3, hold 20, hard 2, angle -4, at tenth 31. */
    static int worth(String e) {
        ArmAgainstArm x = under("force " + e + " ; spends 0 ; hurts 0 ;");
        x.arm(0, 7, 3);
        return x.asks(0, 0, 202, -4, 31);
    }

    /** Where the FAULT of a text is, -1: there is none. */
    static int fault(String bytes) {
        ArmAgainstArm x = new ArmAgainstArm();
        int answer = text(x, bytes);
        return answer <= -100 ? -100 - answer : -1;
    }

    static void sheet(ArmAgainstArm x, int s, int sort, int... numbers) {
        x.sheet(s, sort, numbers.length);
        for (int i = 0; i < numbers.length; i++) x.cell(s, i, numbers[i]);
    }
}
