import java.util.Arrays;

/** The bounds of what is told, undone, kept, refused and counted. */
final class BoundKeeping {
    private final Bounds b;

    private BoundKeeping(Bounds b) {
        this.b = b;
    }

    static void test(Bounds b) {
        BoundKeeping t = new BoundKeeping(b);
        t.nave();
        t.harrow();
        t.stony();
        t.says();
        t.weeks();
        t.weeksToTheLast();
        t.weeksUndone();
        t.undo();
        t.undoNone();
        t.undoEight();
        t.undoBehindTold();
        t.undoLeaves();
        t.undoNotOfRefused();
        t.of();
        t.ofDrag();
        t.imagesKeep();
        t.imagesKeepNotes();
        t.imagesKeepNot();
        t.imagesOverOneAnother();
        t.imagesNone();
        t.orderOfRefusals();
        t.status();
        t.statusOfAnother();
        t.count();
        t.part();
        t.digest();
        t.digestWraps();
        t.manyCalls();
    }

    private void nave() {
        b.sentence(2, "all else as at first (but for IMAGES, THE TEXT, THE FRACTION, STATUS)");
        HarrowSaid x = Bounds.rich();
        x.stony(0, 4);
        x.stony(24, 1);
        x.says(99, 0);
        b.due("nave(4, 13)", x.nave(4, 13), 4);
        int[] counts = {0, 0, 0, 0, 13, 4, 0, 0, 0, 52};
        for (int what = 0; what < counts.length; what++) {
            b.due("count(" + what + ")", x.count(what), counts[what]);
        }
        for (int c = 0; c < 25; c++) {
            b.due("of(" + c + ", 0)", x.of(c, 0), 0);
        }
        b.due("part(0)", x.part(0), 91);
        b.due("status(0)", x.status(0), 1);
        b.due("undo()", x.undo(), HarrowSaid.NO);
        b.due("from(0)", x.from(0), 1);
        b.due("count(0)", x.count(0), 3);
        b.due("from(1)", x.from(1), 1);
        b.due("read(): THE TEXT stays", x.read(), 6);
        b.sentence(2, "in how many CELLS something lay. BAD.");
        b.due("nave(0, 0) of a full one", Bounds.filled(0).nave(0, 0), 25);
        b.due("nave(0, 0) of an empty one", new HarrowSaid().nave(0, 0), 0);
    }

    private void harrow() {
        b.sentence(3, "THE HARROW's KIND: what it was.");
        HarrowSaid x = Bounds.rich();
        for (int kind = 0; kind < 6; kind++) {
            b.due("harrow(" + kind + ")", x.harrow(kind), kind == 0 ? 1 : kind - 1);
            b.due("count(5)", x.count(5), kind);
        }
        b.due("harrow(6)", x.harrow(6), HarrowSaid.BAD);
        b.due("harrow(-1)", x.harrow(-1), HarrowSaid.BAD);
        b.due("harrow(0): refused, it stayed", x.harrow(0), 5);
        b.due("count(0): what lies stays", x.count(0), 4);
        b.due("count(4): where it is stays", x.count(4), 4);
    }

    private void stony() {
        b.sentence(4, "STONY by so much: by how much it was. BAD.");
        HarrowSaid x = Bounds.laid(0, 9, 99);
        int[] each = {0, 1, 2, 3, 4, 4, 0};
        for (int n = 1; n < each.length; n++) {
            b.due("stony(1, " + each[n] + ")", x.stony(1, each[n]), each[n - 1]);
        }
        b.due("stony(24, 4)", x.stony(24, 4), 0);
        b.due("stony(24, 5)", x.stony(24, 5), HarrowSaid.BAD);
        b.due("of(24, 0): refused, it stayed", x.of(24, 0), 4);
        b.due("of(1, 2): what lies there stays", x.of(1, 2), 9);
        b.due("of(1, 3)", x.of(1, 3), 99);
    }

    private void says() {
        b.sentence(8, "SAYING: in how many CELLS something lies then.");
        HarrowSaid x = new HarrowSaid();
        for (int c = 0; c < 25; c++) {
            b.due("says(" + c + ", " + c % 6 + ")", x.says(c, c % 6), c + 1);
        }
        b.sentence(8, "NO: something lies there.");
        for (int c = 0; c < 25; c++) {
            b.due("says(" + c + ", 5) where something lies", x.says(c, 5), HarrowSaid.NO);
            b.due("of(" + c + ", 1): it stays", x.of(c, 1), c % 6);
        }
        b.due("status(1)", x.status(1), 25);
        b.due("says(0, 6): BAD is first", x.says(0, 6), HarrowSaid.BAD);
        x.weeks(1);
        b.due("says(24, 5) behind a week", x.says(24, 5), 1);
        b.due("says(24, 5) again", x.says(24, 5), HarrowSaid.NO);
    }

    private void weeks() {
        b.sentence(11, "n WEEKS go by (1 .. 60; together one that may be undone");
        HarrowSaid x = Bounds.laid(0, 4, 0);
        b.due("weeks(60)", x.weeks(60), 1);
        b.due("count(3)", x.count(3), 60);
        b.due("count(8)", x.count(8), 1);
        b.due("undo()", x.undo(), 0);
        b.due("of(1, 3)", x.of(1, 3), 0);
        b.due("weeks(1)", x.weeks(1), 1);
        b.due("count(3)", x.count(3), 1);
        b.due("weeks(0)", x.weeks(0), HarrowSaid.BAD);
        b.due("weeks(61)", x.weeks(61), HarrowSaid.BAD);
        b.due("count(3): refused, it stayed", x.count(3), 1);
        b.due("weeks(60) where nothing lies", new HarrowSaid().weeks(60), 0);
    }

    private void weeksToTheLast() {
        b.sentence(11, "at 9999 none): how many CELLS are GREEN.");
        HarrowSaid x = Bounds.laid(0, 4, 1);
        Bounds.pass(x, 9969);
        b.due("count(3)", x.count(3), 9970);
        x.reaps(1);
        x.says(1, 0);
        x.drags(1);
        b.due("weeks(60), of which 29 go by", x.weeks(60), 1);
        b.due("count(3)", x.count(3), 9999);
        b.due("of(1, 3)", x.of(1, 3), 29);
        x.says(7, 0);
        b.due("weeks(60), of which none goes by", x.weeks(60), 1);
        b.due("weeks(1)", x.weeks(1), 1);
        b.due("count(3)", x.count(3), 9999);
        b.due("of(1, 3): no older", x.of(1, 3), 29);
        b.due("of(7, 1): no sparrows", x.of(7, 1), 0);
        b.due("weeks(0): BAD also then", x.weeks(0), HarrowSaid.BAD);
        b.due("weeks(61)", x.weeks(61), HarrowSaid.BAD);
        b.due("status(0): none going by is no refusal", x.status(0), 2);
        b.due("status(1)", x.status(1), 0);
    }

    /** Where no week goes by there is nothing that UNDO could bring back: see NOTES.md. */
    private void weeksUndone() {
        b.sentence(12, "as ahead of the last WEEKS gone by, SAYING, STEP, REAPING");
        HarrowSaid x = new HarrowSaid();
        Bounds.pass(x, 9998);
        x.stony(0, 0);
        x.weeks(60);
        b.due("count(8), one week having gone by", x.count(8), 1);
        x.weeks(60);
        x.weeks(1);
        b.due("count(8) behind weeks of which none goes by", x.count(8), 1);
        b.due("undo()", x.undo(), 9998);
        b.due("undo() again", x.undo(), HarrowSaid.NO);
    }

    private void undo() {
        b.sentence(12, "UNDO: what lies where, how deep, how old, where THE HARROW is, the WEEK");
        HarrowSaid x = Bounds.laid(2, 4, 6);
        x.says(2, 0);
        long[] before = new long[4];
        before[0] = x.digest();
        x.drags(1);
        before[1] = x.digest();
        x.weeks(9);
        before[2] = x.digest();
        x.reaps(1);
        before[3] = x.digest();
        x.says(1, 5);
        for (int n = 3; n >= 0; n--) {
            b.due("undo() to the WEEK", x.undo(), n < 2 ? 6 : 15);
            b.due("digest() as ahead of it", x.digest(), before[n]);
        }
        b.due("of(1, 2)", x.of(1, 2), 4);
        b.due("of(2, 2)", x.of(2, 2), 0);
        b.due("count(4)", x.count(4), 0);
    }

    private void undoNone() {
        b.sentence(12, "UNDO: the WEEK then. NO: none may be.");
        HarrowSaid x = new HarrowSaid();
        b.due("undo() of a new one", x.undo(), HarrowSaid.NO);
        x.weeks(5);
        b.due("undo()", x.undo(), 0);
        b.due("undo() again", x.undo(), HarrowSaid.NO);
        b.due("status(1)", x.status(1), 2);
        b.due("count(8)", x.count(8), 0);
        x.weeks(3);
        b.due("undo() behind refusals", x.undo(), 0);
    }

    private void undoEight() {
        b.sentence(12, "(8 at most; behind STONY, a KIND of THE HARROW told none may be)");
        HarrowSaid x = new HarrowSaid();
        int sum = 0;
        int[] weeks = new int[21];
        for (int n = 1; n <= 20; n++) {
            x.weeks(n);
            sum += n;
            weeks[n] = sum;
            b.due("count(8)", x.count(8), Math.min(n, 8));
        }
        for (int n = 19; n >= 12; n--) {
            b.due("undo()", x.undo(), weeks[n]);
        }
        b.due("undo(), the ninth", x.undo(), HarrowSaid.NO);
        b.due("count(3)", x.count(3), weeks[12]);
        for (int n = 0; n < 4; n++) {
            x.says(n, n);
        }
        x.undo();
        x.says(9, 5);
        for (int n = 3; n >= 0; n--) {
            x.undo();
            b.due("count(0): undone and told anew", x.count(0), n);
        }
        b.due("undo()", x.undo(), HarrowSaid.NO);
    }

    private void undoBehindTold() {
        b.sentence(12, "behind STONY, a KIND of THE HARROW told none may be");
        HarrowSaid x = new HarrowSaid();
        x.weeks(1);
        x.stony(0, 1);
        b.due("undo() behind stony(0, 1)", x.undo(), HarrowSaid.NO);
        x.weeks(1);
        x.stony(0, 1);
        b.due("undo() behind stony(0, 1) again", x.undo(), HarrowSaid.NO);
        x.weeks(1);
        x.harrow(1);
        b.due("undo() behind harrow(1)", x.undo(), HarrowSaid.NO);
        x.weeks(1);
        x.harrow(1);
        b.due("undo() behind harrow(1) again", x.undo(), HarrowSaid.NO);
        b.due("count(3)", x.count(3), 4);
        x.weeks(1);
        x.stony(0, 5);
        x.harrow(6);
        b.due("undo() behind what was refused", x.undo(), 4);
    }

    private void undoLeaves() {
        b.sentence(12, "UNDO: what lies where");
        HarrowSaid x = new HarrowSaid();
        x.says(0, 0);
        x.weeks(1);
        x.seen(0, 1, 1, 1);
        x.mark(0, 0, 0);
        x.type(65);
        x.says(1, 0);
        x.frost(1, 3);
        x.image(0);
        x.undo();
        x.undo();
        b.due("count(6): SEEN stay", x.count(6), 1);
        b.due("count(7): MARKS stay", x.count(7), 1);
        b.due("count(9): THE TEXT stays", x.count(9), 1);
        b.due("part(0): THE FRACTION stays", x.part(0), 91);
        b.due("of(0, 1)", x.of(0, 1), 0);
        x.from(0);
        b.due("of(1, 1) from the image", x.of(1, 1), 0);
        x.seen(0, 1, 1, 1);
        b.due("count(8): looks and notes are none that may be undone", x.count(8), 3);
    }

    private void undoNotOfRefused() {
        b.sentence(12, "SAYING, STEP, REAPING (8 at most");
        HarrowSaid x = new HarrowSaid();
        x.says(0, 0);
        x.says(0, 1);
        x.says(0, 6);
        x.drags(0);
        x.drags(4);
        x.reaps(1);
        x.reaps(25);
        x.weeks(0);
        x.from(1);
        x.undo();
        b.due("count(8): refused ones are none", x.count(8), 0);
        b.due("count(0): the SAYING is undone", x.count(0), 0);
    }

    private void of() {
        b.sentence(13, "the KIND that lies there (1; NONE), DEPTH (2; nothing: NONE), AGE (3; nothing: NONE)");
        HarrowSaid x = new HarrowSaid();
        x.stony(24, 4);
        int[] nothing = {4, -1, -1, -1, 0, -1};
        for (int what = 0; what < 6; what++) {
            b.due("of(24, " + what + ") of nothing", x.of(24, what), nothing[what]);
        }
        b.due("status: NONE is no refusal", x.status(0) + x.status(1) + x.status(2), 0);
        b.sentence(13, "how high it stands (4; nothing: 0)");
        x.says(24, 0);
        int[] said = {4, 0, 0, 0, 0, 0};
        for (int what = 0; what < 6; what++) {
            b.due("of(24, " + what + ")", x.of(24, what), said[what]);
        }
        b.due("of(1, 4), 0 weeks old", Bounds.laid(1, 1, 0).of(1, 4), 0);
        b.due("of(1, 4), 1 week old", Bounds.laid(1, 1, 1).of(1, 4), 3);
        b.due("of(1, 4), 8 weeks old", Bounds.laid(1, 1, 8).of(1, 4), 10);
        x = Bounds.laid(5, 9, 99);
        int[] old = {0, 5, 9, 99, 2, 4};
        for (int what = 0; what < 6; what++) {
            b.due("of(1, " + what + ")", x.of(1, what), old[what]);
        }
        b.due("of(1, 6)", x.of(1, 6), HarrowSaid.BAD);
        b.due("of(25, 6)", x.of(25, 6), HarrowSaid.BAD);
        b.due("status(0)", x.status(0), 2);
    }

    private void ofDrag() {
        b.sentence(13, "by how much THE HARROW would drag it deeper (5; nothing: NONE)");
        HarrowSaid x = Bounds.laid(0, 2, 0);
        x.harrow(3);
        b.due("of(1, 5): 8, though 9 is the deepest", x.of(1, 5), 8);
        x = Bounds.laid(0, 9, 0);
        b.due("of(1, 5), 9 deep", x.of(1, 5), 4);
        x.stony(1, 4);
        b.due("of(1, 5): 0 is not NONE", x.of(1, 5), 0);
        x.reaps(1);
        b.due("of(1, 5) of nothing", x.of(1, 5), HarrowSaid.NONE);
    }

    private void imagesKeep() {
        b.sentence(31, "IMAGES 0, 1 keep all but them, THE TEXT, THE FRACTION and STATUS; what may be undone they keep");
        HarrowSaid x = Bounds.rich();
        for (int n = 0; n < 9; n++) {
            x.weeks(1);
        }
        x.image(0);
        long kept = x.digest();
        int week = x.count(3);
        x.nave(5, 24);
        x.image(1);
        otherwise(x);
        b.sentence(32, "it goes on from one");
        b.due("from(0)", x.from(0), 1);
        b.due("digest() as it was kept", x.digest(), kept);
        for (int n = 1; n <= 8; n++) {
            b.due("undo() of what was kept", x.undo(), week - n);
        }
        b.due("undo(), the ninth", x.undo(), HarrowSaid.NO);
        b.due("from(0) again: it was not changed", x.from(0), 1);
        b.due("digest()", x.digest(), kept);
        b.due("from(1)", x.from(1), 1);
        b.due("count(4)", x.count(4), 24);
        b.due("count(8): none was kept", x.count(8), 0);
        b.due("undo()", x.undo(), HarrowSaid.NO);
    }

    /** Other things than an image keeps, as many of each as there may be. */
    private static void otherwise(HarrowSaid x) {
        for (int n = 0; n < 8; n++) {
            x.seen(20 - n, 9 - n, 99 - n, 20 - n);
            x.mark(n % 5, 9 - n, n);
            x.weeks(60);
        }
    }

    private void imagesKeepNotes() {
        b.sentence(31, "IMAGES 0, 1 keep all but them");
        HarrowSaid x = new HarrowSaid();
        for (int n = 0; n < 6; n++) {
            x.seen(n, n, n, n);
            x.mark(n % 5, n, 9 - n);
        }
        x.stony(24, 4);
        x.harrow(5);
        for (int c = 0; c < 25; c++) {
            x.says(c, c % 6);
        }
        long[] kept = {x.digest(), 0};
        x.image(0);
        x.forget(0);
        x.forget(1);
        otherwise(x);
        kept[1] = x.digest();
        x.image(1);
        x.nave(0, 0);
        for (int n = 0; n < 4; n++) {
            b.due("from(" + n % 2 + ")", x.from(n % 2), 1);
            b.due("digest() as it was kept", x.digest(), kept[n % 2]);
        }
        x.from(0);
        for (int left = 24; left >= 17; left--) {
            x.undo();
            b.due("count(0), undone as it was kept", x.count(0), left);
        }
        b.due("undo(), the ninth", x.undo(), HarrowSaid.NO);
    }

    private void imagesKeepNot() {
        b.sentence(32, "keep all but them, THE TEXT, THE FRACTION and STATUS");
        HarrowSaid x = new HarrowSaid();
        x.image(0);
        x.says(0, 0);
        x.image(1);
        Bounds.retype(x, "nave 0 7;");
        x.frost(0, 3);
        x.undo();
        x.undo();
        x.says(25, 0);
        x.says(0, 0);
        b.due("from(0)", x.from(0), 1);
        b.due("count(9)", x.count(9), 9);
        b.due("part(0)", x.part(0), 91);
        b.due("part(1)", x.part(1), 100);
        b.due("status(0)", x.status(0), 1);
        b.due("status(1)", x.status(1), 1);
        b.due("from(1): from(0) did not take it away", x.from(1), 1);
        b.due("count(0)", x.count(0), 1);
        b.due("read()", x.read(), 1);
        b.due("from(0): read() did not take it away", x.from(0), 1);
        b.due("count(4)", x.count(4), 0);
        x.nave(0, 3);
        b.due("from(1): nor did nave()", x.from(1), 1);
        b.due("count(0)", x.count(0), 1);
    }

    private void imagesOverOneAnother() {
        b.sentence(31, "An IMAGE is kept: 1.");
        HarrowSaid x = new HarrowSaid();
        x.weeks(1);
        b.due("image(0)", x.image(0), 1);
        x.weeks(1);
        b.due("image(1)", x.image(1), 1);
        x.weeks(1);
        b.due("image(0) again", x.image(0), 1);
        x.weeks(1);
        b.due("from(1)", x.from(1), 1);
        b.due("count(3)", x.count(3), 2);
        b.due("from(0): the later one", x.from(0), 1);
        b.due("count(3)", x.count(3), 3);
        b.due("count(8): neither is one that may be undone", x.count(8), 3);
    }

    private void imagesNone() {
        b.sentence(32, "NO: none was kept.");
        HarrowSaid x = new HarrowSaid();
        b.due("from(0)", x.from(0), HarrowSaid.NO);
        x.image(0);
        b.due("from(1): the other was kept", x.from(1), HarrowSaid.NO);
        b.due("from(0)", x.from(0), 1);
        b.due("from(2): BAD is first", x.from(2), HarrowSaid.BAD);
        b.due("from(-1)", x.from(-1), HarrowSaid.BAD);
        b.due("image(2)", x.image(2), HarrowSaid.BAD);
        b.due("status(1)", x.status(1), 2);
        b.due("status(0)", x.status(0), 3);
    }

    private void orderOfRefusals() {
        b.sentence(33, "Refused, changing nothing but STATUS, the first of: BAD -2 a number is not as told; NO -3 as told; FULL -4");
        HarrowSaid x = new HarrowSaid();
        x.says(0, 0);
        b.due("says(0, 6): BAD ahead of NO", x.says(0, 6), HarrowSaid.BAD);
        b.due("drags(-1) in a corner", x.drags(-1), HarrowSaid.BAD);
        b.due("from(2), none kept", x.from(2), HarrowSaid.BAD);
        b.due("status(1)", x.status(1), 0);
        for (int n = 0; n < 6; n++) {
            x.seen(0, 0, 0, 0);
            x.mark(0, 0, 0);
        }
        b.due("status(2)", x.status(2), 1);
        b.due("seen(25, 0, 0, 0): BAD ahead of FULL", x.seen(25, 0, 0, 0), HarrowSaid.BAD);
        b.due("mark(0, 0, -1): BAD ahead of FULL", x.mark(0, 0, -1), HarrowSaid.BAD);
        b.due("status(0)", x.status(0), 5);
        b.due("status(2)", x.status(2), 1);
        noesAndFulls();
    }

    /** Refused as NO or FULL, a call leaves all as it was but STATUS. */
    private void noesAndFulls() {
        HarrowSaid x = fullOfNotes();
        b.due("says(1, 0)", x.says(1, 0), HarrowSaid.NO);
        b.due("drags(0)", x.drags(0), HarrowSaid.NO);
        b.due("reaps(2)", x.reaps(2), HarrowSaid.NO);
        b.due("from(1)", x.from(1), HarrowSaid.NO);
        b.due("seen(9, 9, 9, 9)", x.seen(9, 9, 9, 9), HarrowSaid.FULL);
        b.due("mark(3, 3, 3)", x.mark(3, 3, 3), HarrowSaid.FULL);
        b.due("type(59)", x.type(59), HarrowSaid.FULL);
        b.due("status(1)", x.status(1), 4);
        b.due("status(2)", x.status(2), 3);
        HarrowSaid y = fullOfNotes();
        y.drags(0);
        y.drags(0);
        y.drags(0);
        y.drags(0);
        for (int n = 0; n < 3; n++) {
            y.type(0);
        }
        b.same("what was refused as NO or FULL", x, y);
    }

    private static HarrowSaid fullOfNotes() {
        HarrowSaid x = Bounds.laid(4, 4, 9);
        for (int n = 0; n < 5; n++) {
            x.seen(n, n, n, n);
            x.mark(n % 5, n, n);
        }
        x.mark(0, 0, 0);
        x.image(0);
        x.says(3, 0);
        x.weeks(1);
        Bounds.retype(x, "nave 0 0;" + " ".repeat(132) + "say 24 5;");
        return x;
    }

    private void status() {
        b.sentence(33, "STATUS: how many calls were refused as BAD, NO, FULL (each answer told so below is such a one)");
        HarrowSaid x = new HarrowSaid();
        for (int what = 0; what < 3; what++) {
            b.due("status(" + what + ") of a new one", x.status(what), 0);
        }
        x.undo();
        x.reaps(0);
        x.reaps(25);
        for (int n = 0; n < 153; n++) {
            x.type(0);
        }
        b.due("status(0)", x.status(0), 1);
        b.due("status(1)", x.status(1), 2);
        b.due("status(2)", x.status(2), 3);
        x.nave(0, 0);
        b.due("status(2) behind nave()", x.status(2), 3);
        b.sentence(33, "(where others are told they count as these)");
        x.way(-1, -1);
        x.sparrow(5, -1);
        x.part(2);
        b.due("status(0)", x.status(0), 4);
        x.way(1, 9);
        x.sparrow(0, 99);
        x.when(0, 20);
        x.read();
        x.of(0, 1);
        b.due("status(0): -5, NONE and a FAULT are none of these", x.status(0), 4);
        b.due("status(1)", x.status(1), 2);
        b.due("status(2)", x.status(2), 3);
    }

    private void statusOfAnother() {
        b.sentence(33, "-1: another what (counts as BAD).");
        HarrowSaid x = new HarrowSaid();
        b.due("status(3)", x.status(3), -1);
        b.due("status(-1)", x.status(-1), -1);
        b.due("status(0)", x.status(0), 2);
        b.due("status(1)", x.status(1), 0);
        b.due("status(2)", x.status(2), 0);
    }

    private void count() {
        b.sentence(34, "How many: 0 CELLS in which something lies");
        HarrowSaid x = Bounds.filled(1);
        b.due("count(0)", x.count(0), 25);
        b.due("count(4)", x.count(4), 24);
        b.sentence(34, "6 SEEN, 7 MARKS, 8 that may be undone, 9 bytes of THE TEXT. BAD.");
        for (int n = 0; n < 9; n++) {
            x.weeks(1);
            x.seen(0, 0, 0, 0);
            x.mark(0, 0, 0);
        }
        Bounds.retype(x, " ".repeat(151));
        int[] counts = {25, 25, 25, 9, 24, 0, 5, 6, 8, 150};
        for (int what = 0; what < counts.length; what++) {
            b.due("count(" + what + ")", x.count(what), counts[what]);
        }
        b.due("count(10)", x.count(10), HarrowSaid.BAD);
        b.due("count(-1)", x.count(-1), HarrowSaid.BAD);
        b.due("status(0)", x.status(0), 2);
    }

    private void part() {
        b.sentence(30, "THE FRACTION: above (0), below (1).");
        HarrowSaid x = new HarrowSaid();
        b.due("part(0) of a new one", x.part(0), 0);
        b.due("part(1) of a new one", x.part(1), 1);
        b.due("part(2)", x.part(2), HarrowSaid.BAD);
        b.due("part(-1)", x.part(-1), HarrowSaid.BAD);
        b.due("status(0)", x.status(0), 2);
    }

    private void digest() {
        b.sentence(35, "of SEEN c, d, a, x; of MARKS s, d, x; THE FRACTION.");
        HarrowSaid x = new HarrowSaid();
        b.due("digest(), none SEEN, no MARKS", x.digest(), digestByCalls(x));
        for (int n = 0; n < 5; n++) {
            x.seen(24 - n, 9 - n, 99 - n, 20 - n);
        }
        for (int n = 0; n < 6; n++) {
            x.mark(n % 5, 9 - n, n + 1);
        }
        int[] notes = {24, 9, 99, 20, 23, 8, 98, 19, 22, 7, 97, 18, 21, 6, 96, 17, 20, 5, 95, 16,
            0, 9, 1, 1, 8, 2, 2, 7, 3, 3, 6, 4, 4, 5, 5, 0, 4, 6};
        b.due("digest(), all SEEN and MARKS", x.digest(), digestByCalls(x, notes));
        x.seen(0, 0, 0, 0);
        x.mark(0, 0, 0);
        b.due("digest(): what was refused counts not", x.digest(), digestByCalls(x, notes));
        x.forget(0);
        b.due("digest() behind forget(0)", x.digest(), digestByCalls(x, Arrays.copyOfRange(notes, 20, 38)));
        x.says(24, 5);
        x.frost(24, 3);
        b.due("digest() with another FRACTION", x.digest(), digestByCalls(x, Arrays.copyOfRange(notes, 20, 38)));
    }

    private static long digestByCalls(HarrowSaid x, int... notes) {
        java.math.BigInteger h = java.math.BigInteger.valueOf(1741);
        for (int what = 0; what < 10; what++) {
            h = further(h, x.count(what));
        }
        for (int n = 0; n < 100; n++) {
            h = further(h, x.of(n / 4, n % 4));
        }
        for (int note : notes) {
            h = further(h, note);
        }
        h = further(h, x.part(0));
        return further(h, x.part(1)).longValue();
    }

    private static java.math.BigInteger further(java.math.BigInteger h, long v) {
        return h.multiply(java.math.BigInteger.valueOf(31)).add(java.math.BigInteger.valueOf(v));
    }

    /** 31 to the power of 112 is beyond a long many times: it wraps around, as Java's longs do. */
    private void digestWraps() {
        b.sentence(35, "h = 1741; then h = 31 h + v for each v");
        long h = 1741;
        for (int n = 0; n < 10; n++) {
            h = 31 * h;
        }
        for (int c = 0; c < 25; c++) {
            h = 31 * h;
            for (int n = 0; n < 3; n++) {
                h = 31 * h - 1;
            }
        }
        h = 31 * h;
        h = 31 * h + 1;
        b.due("digest() of a new one", new HarrowSaid().digest(), h);
        b.sentence(35, "count(0) to count(9); of CELLS what of() tells for 0 to 3");
        HarrowSaid x = Bounds.rich();
        b.due("digest()", x.digest(), digestByCalls(x, 2, 4, 7, 14, 3, 1, 2, 3, 1, 2, 2));
        b.due("digest() again: it changes nothing", x.digest(), digestByCalls(x, 2, 4, 7, 14, 3, 1, 2, 3, 1, 2, 2));
    }

    private void manyCalls() {
        b.sentence(33, "An object is used for at most 512 calls after it has been made");
        HarrowSaid x = new HarrowSaid();
        for (int n = 0; n < 511; n++) {
            b.due("undo()", x.undo(), HarrowSaid.NO);
        }
        b.due("status(1), the 512th call", x.status(1), 511);
    }
}
