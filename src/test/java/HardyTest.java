import java.util.Random;

/** No call throws, for any arguments in any state, long behind the 512th call too; none that is refused changes a thing. */
public final class HardyTest {
    private static final int[] ENDS = {Integer.MIN_VALUE, Integer.MIN_VALUE + 1, -1000000000, -65536, -128, -10, -5, -2, -1,
        0, 1, 2, 3, 4, 5, 6, 9, 10, 20, 21, 24, 25, 31, 32, 60, 61, 63, 64, 99, 100, 127, 128, 150, 255, 999999, 1000000,
        1 << 24, (1 << 25) - 1, 1 << 25, 1 << 30, Integer.MAX_VALUE - 1, Integer.MAX_VALUE};
    private static int wrong = 0;

    private static void complain(String what) {
        wrong++;
        System.out.println(what);
    }

    private static String told(int which, int[] a) {
        StringBuilder s = new StringBuilder(ModelTest.NAMES[which]).append('(');
        for (int i = 0; i < ModelTest.MOST[which].length; i++) {
            s.append(i == 0 ? "" : ", ").append(a[i]);
        }
        return s.append(')').toString();
    }

    private static int refusals(HarrowSaid x) {
        return x.status(0) + x.status(1) + x.status(2);
    }

    /** What is thrown is caught here alone, to be told with the call. */
    private static void call(HarrowSaid x, int which, int[] a) {
        long before = x.digest();
        int refused = refusals(x);
        try {
            ModelTest.call(x, which, a);
        } catch (RuntimeException | Error thrown) {
            complain(told(which, a) + " threw " + thrown);
        }
        if (refusals(x) != refused && x.digest() != before) {
            complain(told(which, a) + " was refused, and changed something");
        }
    }

    private static void eachEnd(HarrowSaid x) {
        int[] a = new int[4];
        for (int which = 0; which < ModelTest.NAMES.length; which++) {
            int width = ModelTest.MOST[which].length;
            for (int i = 0; i < width; i++) {
                for (int end : ENDS) {
                    java.util.Arrays.fill(a, 1);
                    a[i] = end;
                    call(x, which, a);
                }
            }
            if (width == 2) {
                eachPair(x, which);
            }
        }
    }

    private static void eachPair(HarrowSaid x, int which) {
        for (int one : ENDS) {
            for (int other : ENDS) {
                call(x, which, new int[] {one, other, 0, 0});
            }
        }
    }

    private static void longRun(int run, int seldom) {
        Random by = new Random(run);
        HarrowSaid x = new HarrowSaid();
        for (int n = 0; n < 20000; n++) {
            int which = by.nextInt(ModelTest.NAMES.length);
            // What sweeps all away comes seldom, or nothing would ever grow full.
            if ((which < 6 && which != 3 || which == 10 || which == 21) && by.nextInt(seldom) > 0) {
                which = 6 + by.nextInt(4);
            }
            int[] a = ModelTest.arguments(by, which);
            if (by.nextInt(8) == 0) {
                a[by.nextInt(4)] = by.nextBoolean() ? by.nextInt() : ENDS[by.nextInt(ENDS.length)];
            }
            call(x, which, a);
        }
    }

    public static void main(String[] args) {
        eachEnd(new HarrowSaid());
        HarrowSaid full = Bounds.typed("nave 3 12;say 0 0;say 6 1;say 7 2;say 8 3;say 13 4;say 18 5;drag 0 1 2 2 3;weeks 99;"
            + "weeks 99;say 24 3;");
        if (full.read() != 11) {
            complain("the full nave is not read");
        }
        eachEnd(full);
        for (int run = 0; run < 10; run++) {
            longRun(run, run % 2 == 0 ? 20 : 2000);
        }
        System.out.println(wrong == 0 ? "nothing is thrown, nothing refused changes a thing" : wrong + " calls did what they must not");
        if (wrong != 0) {
            System.exit(1);
        }
    }
}
