import java.util.ArrayList;
import java.util.List;

/** Tells all that can be seen of an object, but status(); the object is spent then. */
final class Witness {
    /** Shows by what is left of it of how many bits a number is: 1, 257 or all. */
    private static final long PROBE = (1L << 40) + 257;

    private final HornRocks one;
    private final List<String> seen = new ArrayList<>();

    private Witness(HornRocks one) {
        this.one = one;
    }

    static List<String> tell(HornRocks one) {
        Witness witness = new Witness(one);
        witness.sea();
        witness.sheets();
        // The tape's bytes are seen by what they come to.
        witness.see("chart", one.chart());
        witness.sea();
        witness.see("undo", one.undo());
        witness.sea();
        return witness.seen;
    }

    private void see(String call, long answer) {
        seen.add(call + " = " + answer);
    }

    private void sea() {
        for (int what = 0; what <= 6; what++) {
            see("now " + what, one.now(what));
        }
        for (int what = 0; what <= 3; what++) {
            see("count " + what, one.count(what));
        }
        for (int rock = 0; rock < one.count(0); rock++) {
            for (int what = 0; what <= 8; what++) {
                see("of " + rock + " " + what, one.of(rock, what));
            }
        }
    }

    private void sheets() {
        for (int s = 0; s <= 3; s++) {
            for (int i = 0; i <= 40; i++) {
                see("write " + s + " " + i, one.write(s, i, PROBE));
            }
            see("write " + s + " 0, again", one.write(s, 0, 0));
        }
    }
}
