import java.lang.reflect.InvocationTargetException;
import java.lang.reflect.Method;
import java.util.Arrays;

/** Of each number that a call is given: its least and its most are taken, all beyond is refused as BAD. */
final class BoundRefusals {
    private static final int[] FAR = {Integer.MIN_VALUE, Integer.MAX_VALUE};

    private final Bounds b;

    private BoundRefusals(Bounds b) {
        this.b = b;
    }

    static void test(Bounds b) {
        BoundRefusals r = new BoundRefusals(b);
        r.nave();
        r.weeks();
        r.looks();
        r.notes();
        r.rest();
        r.others();
    }

    private void nave() {
        number(2, "THE HARROW's KIND, its CELL", "nave", 0, 0, 5, 0, 0);
        number(2, "24: 5 times the ROW (0 .. 4) and the COLUMN (0 .. 4)", "nave", 1, 0, 24, 0, 0);
        number(3, "THE HARROW's KIND: what it was. BAD.", "harrow", 0, 0, 5, 0);
        number(4, "24: 5 times the ROW (0 .. 4) and the COLUMN (0 .. 4)", "stony", 0, 0, 24, 0, 0);
        number(4, "STONY by 0 .. 4", "stony", 1, 0, 4, 0, 0);
        number(5, "A byte (0 .. 127) comes behind THE TEXT", "type", 0, 0, 127, 0);
    }

    private void weeks() {
        number(8, "24: 5 times the ROW (0 .. 4) and the COLUMN (0 .. 4)", "says", 0, 0, 24, 0, 0);
        number(8, "SAYING: in how many CELLS something lies then. BAD;", "says", 1, 0, 5, 0, 0);
        number(9, "A STEP (0 .. 3)", "drags", 0, 0, 3, 0);
        number(10, "24: 5 times the ROW (0 .. 4) and the COLUMN (0 .. 4)", "reaps", 0, 0, 24, 0);
        number(11, "n WEEKS go by (1 .. 60;", "weeks", 0, 1, 60, 0);
        number(13, "24: 5 times the ROW (0 .. 4) and the COLUMN (0 .. 4)", "of", 0, 0, 24, 0, 0);
        number(13, "by how much THE HARROW would drag it deeper (5; nothing: NONE). BAD.", "of", 1, 0, 5, 0, 0);
    }

    private void looks() {
        number(14, "24: 5 times the ROW (0 .. 4) and the COLUMN (0 .. 4)", "high", 0, 0, 24, 0, 0);
        number(14, "behind m (0 .. 60) WEEKS", "high", 1, 0, 60, 0, 0);
        number(15, "24: 5 times the ROW (0 .. 4) and the COLUMN (0 .. 4)", "when", 0, 0, 24, 0, 1);
        number(15, "is x (1 .. 20) high or more first", "when", 1, 1, 20, 0, 0);
        number(16, "ALL GREEN. BAD.", "green", 0, 0, 60, 0);
        number(18, "THREE for m (0 .. 60)", "three", 0, 0, 60, 0, 0);
        number(18, "THREE: how many (0), the three (1). BAD.", "three", 1, 0, 1, 0, 0);
    }

    private void notes() {
        number(19, "24: 5 times the ROW (0 .. 4) and the COLUMN (0 .. 4)", "seen", 0, 0, 24, 0, 0, 0, 0);
        number(19, "what lay in a CELL, d (0 .. 9) deep", "seen", 1, 0, 9, 0, 0, 0, 0);
        number(19, "a (0 .. 99) WEEKS old", "seen", 2, 0, 99, 0, 0, 0, 0);
        number(19, "stood x (0 .. 20) high", "seen", 3, 0, 20, 0, 0, 0, 0);
        number(20, "SAID, as bits. BAD.", "said", 0, 0, 24, 0);
        number(21, "TELL. NONE. BAD.", "tell", 0, 0, 24, 0);
        number(22, "STONY by s (0 .. 4). WHAT", "mark", 0, 0, 4, 0, 0, 0);
        number(22, "dragged what lay d (0 .. 9) deep", "mark", 1, 0, 9, 0, 0, 0);
        number(22, "by x (0 .. 9) deeper", "mark", 2, 0, 9, 0, 0, 0);
        number(23, "No SEEN ones (0), MARKS (1): how many there were. BAD.", "forget", 0, 0, 1, 0);
        number(26, "24: 5 times the ROW (0 .. 4) and the COLUMN (0 .. 4)", "deep", 0, 0, 24, 0, 0);
        number(26, "having come to lie d (0 .. 9) deep", "deep", 1, 0, 9, 0, 0);
        number(28, "24: 5 times the ROW (0 .. 4) and the COLUMN (0 .. 4)", "frost", 0, 0, 24, 0, 0);
        number(28, "by c of 10 (0 .. 10) a STEP drags nothing deeper", "frost", 1, 0, 10, 0, 0);
        number(29, "YEARS by a SEED (0 .. 999999)", "years", 0, 0, 999999, 0, 0);
        number(29, "n (0 .. 60) WEEKS", "years", 1, 0, 60, 0, 0);
    }

    private void rest() {
        number(30, "THE FRACTION: above (0), below (1). BAD.", "part", 0, 0, 1, 0);
        number(31, "An IMAGE is kept: 1. BAD.", "image", 0, 0, 1, 0);
        number(32, "It goes on from an IMAGE: 1. BAD;", "from", 0, 0, 1, 0);
        number(34, "8 that may be undone, 9 bytes of THE TEXT. BAD.", "count", 0, 0, 9, 0);
    }

    /** Where BAD has an answer of its own. */
    private void others() {
        refused(17, "-5: not so many. BAD: -10.", -10, "way", 0, new int[] {-1, 1 << 25}, 0, -1);
        refused(17, "how many (k = NONE), the k-th STEP. -5: not so many. BAD: -10.", -10, "way", 1,
            new int[] {-2, Integer.MIN_VALUE}, 0, 0);
        refused(17, "WAY for told CELLS (bits; 5 at most)", -10, "way", 0,
            new int[] {63, 0x1f80000, 0x1111110 | 1, 0x1ffffff, Integer.MIN_VALUE, Integer.MAX_VALUE}, 0, -1);
        refused(27, "CURATE and SPARROW: how many (k = NONE), the k-th. -5: not so many. BAD: -10.", -10, "sparrow", 0,
            new int[] {-1, 5, Integer.MIN_VALUE, Integer.MAX_VALUE}, 0, -1);
        refused(27, "how many (k = NONE), the k-th. -5: not so many. BAD: -10.", -10, "sparrow", 1,
            new int[] {-2, Integer.MIN_VALUE}, 0, 0);
        refused(33, "-1: another what (counts as BAD).", -1, "status", 0,
            new int[] {-1, 3, Integer.MIN_VALUE, Integer.MAX_VALUE}, 0);
    }

    private void number(int promise, String words, String call, int place, int least, int most, int... told) {
        refused(promise, words, HarrowSaid.BAD, call, place, new int[] {least - 1, most + 1, FAR[0], FAR[1]}, told);
        for (int value : new int[] {least, most}) {
            HarrowSaid x = Bounds.rich();
            int[] args = with(told, place, value);
            String shown = call + Arrays.toString(args);
            boolean bad = call(x, call, args) == HarrowSaid.BAD;
            b.due(shown + " refused as BAD", bad ? 1 : 0, 0);
            b.due("status(0) behind " + shown, x.status(0), 0);
        }
    }

    private void refused(int promise, String words, long answer, String call, int place, int[] bad, int... told) {
        b.sentence(promise, words);
        for (int value : bad) {
            HarrowSaid x = Bounds.rich();
            int[] args = with(told, place, value);
            String shown = call + Arrays.toString(args);
            b.due(shown, call(x, call, args), answer);
            b.due("status(0) behind " + shown, x.status(0), 1);
            b.same(shown, x, Bounds.rich());
        }
    }

    private static int[] with(int[] told, int place, int value) {
        int[] args = told.clone();
        args[place] = value;
        return args;
    }

    private static long call(HarrowSaid x, String name, int[] args) {
        Class<?>[] types = new Class<?>[args.length];
        Arrays.fill(types, int.class);
        try {
            Method method = HarrowSaid.class.getMethod(name, types);
            return ((Number) method.invoke(x, Arrays.stream(args).boxed().toArray())).longValue();
        } catch (InvocationTargetException | NoSuchMethodException | IllegalAccessException e) {
            throw new IllegalStateException(name + Arrays.toString(args), e);
        }
    }
}
