import java.util.ArrayList;
import java.util.List;

/**
 * All that can be seen of an object, by one row of calls that spoils it: two objects that answer alike stand alike.
 * It takes some 340 calls, of the 512 that an object has.
 */
final class Look {
    private final ArmAgainstArm x;
    private final List<Long> seen = new ArrayList<>();
    private final int[] sorts = {-1, -1, -1, -1}, sizes = new int[4];

    private Look(ArmAgainstArm looked) {
        x = looked;
    }

    static List<Long> at(ArmAgainstArm x) {
        Look look = new Look(x);
        look.counts();
        look.arms();
        look.bouts();
        look.sheets();
        look.tape();
        look.image();
        look.numbers();
        return look.seen;
    }

    private long see(long answer) {
        seen.add(answer);
        return answer;
    }

    private void counts() {
        for (int what = 0; what < 4; what++) see(x.count(what));
    }

    private void arms() {
        for (int a = 0; a < 6; a++) for (int what = 0; what < 6; what++) see(x.told(a, what));
    }

    private void bouts() {
        for (int a = 0; a < 6; a++) for (int b = a + 1; b < 6; b++) see(x.match(10 * a + b, 40, 0));
    }

    /** Which sort each SHEET is of, and its size: the most numbers that can be copied from it onto itself. */
    private void sheets() {
        for (int s = 0; s < 4; s++) {
            for (int sort = 0; sort < 3; sort++) if (see(x.armsBy(s, sort, 0, 0)) == 0) sorts[s] = sort;
            while (sizes[s] < 40 && x.copy(s, sizes[s], s, sizes[s], 1) == 1) sizes[s]++;
            see(sizes[s]);
        }
    }

    /** THE TAPE's bytes, by what comes of them with more behind them (of a full one, or with FULL TEXTS: how many). */
    private void tape() {
        for (char v : "rts 4;".toCharArray()) see(x.feed(1, v, 0, 0, 0, 0));
        see(x.text());
        int was = x.count(2);
        for (int t = 0; t < 6; t++) {
            see(x.force(t));
            for (int part = 0; part < 3; part++) see(x.asks(part, 0, 173, -9, 11));
        }
        x.force(was);
    }

    private void image() {
        see(x.back());
        counts();
        arms();
    }

    /** A SHEET's numbers (0 .. 5 each, so that any three make an ARM), three at its begin, in its midst, at its end. */
    private void numbers() {
        see(x.image());
        for (int s = 0; s < 4; s++) {
            for (int at : new int[] {0, 3, sizes[s] - 3}) {
                if (see(x.armsBy(s, sorts[s], at, 1)) != 1) continue;
                for (int what = 2; what < 5; what++) see(x.told(x.count(0) - 1, what));
                x.back();
            }
        }
    }
}
