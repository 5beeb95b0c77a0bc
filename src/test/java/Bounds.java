import java.nio.file.Files;
import java.nio.file.Path;
import java.util.Set;
import java.util.TreeSet;

/** What the tests of boundary cases share: the sentence at hand, what is due, and naves to begin with. */
final class Bounds {
    private static final int PROMISES = 35;
    private static final Path DOCUMENT = Path.of("../shared/DOC.md");

    private final String document;
    private final Set<Integer> promises = new TreeSet<>();
    private String sentence = "";
    private int sentences = 0;
    private int wrong = 0;

    Bounds() throws java.io.IOException {
        document = Files.isReadable(DOCUMENT) ? plain(Files.readString(DOCUMENT)) : null;
    }

    private static String plain(String text) {
        return text.replace("`", "").replaceAll("\\s+", " ");
    }

    private void complain(String what) {
        wrong++;
        System.out.println(what);
    }

    /** Words that the document does not have would hold the program to something nobody asked for. */
    void sentence(int promise, String words) {
        sentence = "promise " + promise + ", \"" + words + "\"";
        sentences++;
        promises.add(promise);
        if (document != null && !document.contains(plain(words))) {
            complain(sentence + ": the document does not say so");
        }
    }

    void due(String call, long got, long want) {
        if (got != want) {
            complain(sentence + ": " + call + " answered " + got + ", due is " + want);
        }
    }

    /** Whether all was as due, each promise having had a sentence at least. */
    boolean holds() {
        for (int promise = 1; promise <= PROMISES; promise++) {
            if (!promises.contains(promise)) {
                complain("no sentence of promise " + promise);
            }
        }
        System.out.println(sentences + (wrong == 0 ? " sentences hold" : " sentences, " + wrong + " answers not as due"));
        return wrong == 0;
    }

    static HarrowSaid typed(String text) {
        HarrowSaid x = new HarrowSaid();
        retype(x, text);
        return x;
    }

    static void retype(HarrowSaid x, String text) {
        x.clear();
        for (int i = 0; i < text.length(); i++) {
            x.type(text.charAt(i));
        }
    }

    HarrowSaid told(String text) {
        HarrowSaid x = typed(text);
        if (x.read() < 1) {
            complain(sentence + ": does not read \"" + text + "\"");
        }
        return x;
    }

    /** One saying, in cell 1, so deep and so old; THE HARROW is PLAIN, in cell 0, STONY is 0, nothing may be undone. */
    static HarrowSaid laid(int kind, int depth, int age) {
        HarrowSaid x = new HarrowSaid();
        x.says(1, kind);
        for (int left = depth; left > 0; left -= Math.min(left, 4)) {
            x.stony(1, 4 - Math.min(left, 4));
            x.drags(1);
            x.drags(3);
        }
        pass(x, age);
        x.stony(1, 0);
        return x;
    }

    static void pass(HarrowSaid x, int weeks) {
        for (int left = weeks; left > 0; left -= Math.min(left, 60)) {
            x.weeks(Math.min(left, 60));
        }
    }

    /** Something lies in each cell, 4 deep or deeper, no week having gone by; THE HARROW is PLAIN, in cell 24. */
    static HarrowSaid filled(int kind) {
        HarrowSaid x = new HarrowSaid();
        for (int c = 0; c < 25; c++) {
            x.says(c, kind);
        }
        x.drags(2);
        x.drags(0);
        for (int n = 1; n < 25; n++) {
            x.drags(n % 5 == 0 ? 2 : n / 5 % 2 == 0 ? 1 : 3);
        }
        return x;
    }

    /** Something of all that can be told or kept; no number in it is at an end of what it may be. */
    static HarrowSaid rich() {
        HarrowSaid x = typed("nave 1 6;stony 8 2;say 7 2;say 8 4;drag 1 1;weeks 7;");
        x.read();
        x.says(3, 5);
        x.seen(2, 4, 7, 14);
        x.seen(3, 1, 2, 3);
        x.mark(1, 2, 2);
        x.frost(3, 3);
        x.image(0);
        x.drags(0);
        x.weeks(2);
        x.says(9, 1);
        x.image(1);
        x.drags(2);
        x.undo();
        x.drags(1);
        return x;
    }

    /** All that can be seen of an object but how often it said BAD; it is used up by this. */
    static String trace(HarrowSaid x) {
        StringBuilder all = new StringBuilder();
        all.append(x.status(1)).append(' ').append(x.status(2));
        undone(x, all);
        for (int i = 0; i < 2; i++) {
            all.append(" image ").append(x.from(i));
            undone(x, all);
        }
        all.append(" text ").append(x.read()).append(' ').append(x.digest()).append(' ').append(x.clear());
        return all.toString();
    }

    private static void undone(HarrowSaid x, StringBuilder all) {
        all.append(' ').append(x.digest());
        for (int n = 0; n < 9; n++) {
            all.append(' ').append(x.undo()).append(' ').append(x.digest());
        }
    }

    /** What changes nothing leaves no trace but in STATUS. */
    void same(String call, HarrowSaid changed, HarrowSaid untouched) {
        if (!trace(changed).equals(trace(untouched))) {
            complain(sentence + ": " + call + " changed something");
        }
    }
}
