/** The bounds of THE TEXT, of its ITEMS and TOKENS, and each FAULT. */
final class BoundText {
    private static final String NAVE = "nave 0 0;";

    private final Bounds b;

    private BoundText(Bounds b) {
        this.b = b;
    }

    static void test(Bounds b) {
        BoundText t = new BoundText(b);
        t.typing();
        t.clearing();
        t.clearedBytes();
        t.longest();
        t.items();
        t.naveItem();
        t.stonyItem();
        t.sayItem();
        t.dragItem();
        t.weeksItem();
        t.words();
        t.numbers();
        t.blanks();
        t.wordThatIsNone();
        t.naveAgain();
        t.aheadOfNave();
        t.tenthNumber();
        t.closedTooEarly();
        t.threeFigures();
        t.numberNotAsTold();
        t.lies();
        t.leadsOut();
        t.byteThatBeginsNone();
        t.endsTooEarly();
        t.firstFault();
        t.allStays();
        t.takesThePlace();
    }

    private void items(String text, int many) {
        b.due("read() of \"" + text + "\"", Bounds.typed(text).read(), many);
    }

    private void fault(String text, int place) {
        b.due("read() of \"" + text + "\"", Bounds.typed(text).read(), -10 - place);
    }

    /** A fault behind NAVE, its place being counted from there. */
    private void later(String text, int place) {
        fault(NAVE + text, NAVE.length() + place);
    }

    private void typing() {
        b.sentence(5, "A byte (0 .. 127) comes behind THE TEXT: how many it has.");
        HarrowSaid x = new HarrowSaid();
        b.due("type(0)", x.type(0), 1);
        b.due("type(127)", x.type(127), 2);
        b.due("type(128)", x.type(128), HarrowSaid.BAD);
        b.due("type(-1)", x.type(-1), HarrowSaid.BAD);
        b.due("count(9)", x.count(9), 2);
        b.sentence(5, "BAD; FULL.");
        for (int n = 3; n <= 150; n++) {
            b.due("type(59)", x.type(59), n);
        }
        b.due("type(59), the 151st", x.type(59), HarrowSaid.FULL);
        b.due("type(59), the 152nd", x.type(59), HarrowSaid.FULL);
        b.due("type(128) when full: BAD is first", x.type(128), HarrowSaid.BAD);
        b.due("count(9)", x.count(9), 150);
        b.due("status(0)", x.status(0), 3);
        b.due("status(2)", x.status(2), 2);
    }

    private void clearing() {
        b.sentence(6, "THE TEXT is empty: how many it had.");
        HarrowSaid x = new HarrowSaid();
        b.due("clear() of none", x.clear(), 0);
        Bounds.retype(x, " ".repeat(150));
        b.due("clear() when full", x.clear(), 150);
        b.due("clear() again", x.clear(), 0);
        b.due("count(9)", x.count(9), 0);
        b.due("type(127) behind it", x.type(127), 1);
        x.clear();
        b.due("read() behind it", x.read(), -10);
    }

    /** What the text was before is not read behind the end of what it is now. */
    private void clearedBytes() {
        b.sentence(6, "THE TEXT is empty");
        HarrowSaid x = new HarrowSaid();
        again(x, "x".repeat(150), -10);
        again(x, "nave", -14);
        again(x, "9".repeat(150), -10);
        again(x, "nave 0 2", -18);
        again(x, NAVE, 1);
        again(x, "nave 0 0", -18);
        again(x, "", -10);
        again(x, NAVE + "say 0 0;", 2);
        again(x, NAVE, 1);
        b.due("count(0)", x.count(0), 0);
    }

    private void again(HarrowSaid x, String text, int want) {
        Bounds.retype(x, text);
        b.due("read() of \"" + text + "\" behind another", x.read(), want);
    }

    private void longest() {
        b.sentence(7, "THE NAVE is told by a TEXT (150 bytes at most)");
        items(NAVE + " ".repeat(141), 1);
        items(" ".repeat(141) + NAVE, 1);
        items(NAVE + " ".repeat(132) + "say 24 5;", 2);
        fault(NAVE + " ".repeat(133) + "say 24 5", 150);
        items(NAVE + "weeks 1;".repeat(17), 18);
        HarrowSaid x = Bounds.typed(NAVE + " ".repeat(132) + "say 24 5;;");
        b.due("read(), the 151st byte having been refused", x.read(), 2);
        b.due("of(24, 1)", x.of(24, 1), 5);
    }

    private void items() {
        b.sentence(7, "of ITEMS, each ended by ;");
        items(NAVE, 1);
        fault("nave 0 0", 8);
        later("weeks 1", 7);
        later("say 1 1 say 2 2;", 8);
        later("weeks 1 weeks 2;", 8);
        later("drag 1 drag 3;", 7);
        b.sentence(7, "THE NAVE is read: how many ITEMS.");
        items(NAVE + "stony 0 0;say 0 0;drag 1;weeks 1;", 5);
    }

    private void naveItem() {
        b.sentence(7, "nave KIND CELL (of THE HARROW; once, first of all)");
        for (int kind = 0; kind < 6; kind++) {
            HarrowSaid x = b.told("nave " + kind + " 24;");
            b.due("count(5)", x.count(5), kind);
            b.due("count(4)", x.count(4), 24);
        }
        fault("nave 6 0;", 5);
        fault("nave 99 0;", 5);
        fault("nave 0 25;", 7);
        fault("nave 0 99;", 7);
    }

    private void stonyItem() {
        b.sentence(7, "stony c s;");
        HarrowSaid x = b.told(NAVE + "stony 0 4;stony 24 4;stony 24 0;stony 23 3;");
        b.due("of(0, 0)", x.of(0, 0), 4);
        b.due("of(24, 0): the last one counts", x.of(24, 0), 0);
        b.due("of(23, 0)", x.of(23, 0), 3);
        later("stony 25 0;", 6);
        later("stony 0 5;", 8);
        later("stony 0;", 7);
        later("stony 0 0 0;", 10);
    }

    private void sayItem() {
        b.sentence(7, "say c KIND;");
        HarrowSaid x = b.told(NAVE + "say 0 5;say 24 0;");
        b.due("of(0, 1)", x.of(0, 1), 5);
        b.due("of(24, 1)", x.of(24, 1), 0);
        b.due("of(24, 2)", x.of(24, 2), 0);
        later("say 25 0;", 4);
        later("say 0 6;", 6);
        later("say 0;", 5);
        later("say 0 0 0;", 8);
    }

    private void dragItem() {
        b.sentence(7, "drag and 1 to 9 numbers (STEPS)");
        items(NAVE + "drag 1;", 2);
        items(NAVE + "drag 1 2 3 0 1 2 3 0 1;", 2);
        later("drag;", 4);
        later("drag 4;", 5);
        later("drag 1 4;", 7);
        later("drag 1 2 3 0 1 2 3 0 4;", 21);
        HarrowSaid x = b.told(NAVE + "say 1 0;say 2 0;drag 1 1 1 1 3 3 3 1 1;");
        b.due("count(4) behind 9 steps", x.count(4), 3);
        b.due("of(1, 2): twice in it", x.of(1, 2), 8);
        b.due("of(2, 2): 9 at most", x.of(2, 2), 9);
        x = b.told("nave 0 24;drag 03 00;");
        b.due("count(4) behind steps of two figures", x.count(4), 18);
    }

    private void weeksItem() {
        b.sentence(7, "weeks n (1 .. 99)");
        b.due("count(3)", b.told(NAVE + "weeks 1;").count(3), 1);
        b.due("count(3)", b.told(NAVE + "weeks 99;").count(3), 99);
        HarrowSaid x = b.told(NAVE + "say 1 0;say 2 0;drag 1;weeks 99;weeks 1;");
        b.due("of(1, 3): 99 at most", x.of(1, 3), 99);
        b.due("of(2, 1): had by sparrows", x.of(2, 1), HarrowSaid.NONE);
        b.due("count(3)", x.count(3), 100);
        later("weeks 0;", 6);
        later("weeks 00;", 6);
        later("weeks 100;", 6);
        later("weeks;", 5);
        later("weeks 1 1;", 8);
    }

    private void words() {
        b.sentence(7, "TOKENS: words of letters a .. z");
        for (char letter : new char[] {'a', 'm', 'z'}) {
            fault("nave" + letter + " 0 0;", 0);
        }
        for (char other : new char[] {'`', '{', 'A', 'Z', '@', '[', 'z' + 1, 127, 0}) {
            fault("nave" + other + " 0 0;", 4);
        }
        fault("nAve 0 0;", 0);
    }

    private void numbers() {
        b.sentence(7, "figures (1 or 2 are one number)");
        b.due("count(4)", b.told("nave 00 09;").count(4), 9);
        b.due("count(4)", b.told("nave 05 20;").count(4), 20);
        b.due("count(5)", b.told("nave 05 20;").count(5), 5);
        for (int figure = 0; figure <= 9; figure++) {
            b.due("count(4)", b.told("nave 0 1" + figure + ";").count(4), 10 + figure);
        }
        fault("nave 0 /;", 7);
        fault("nave 0 :;", 7);
        fault("nave 0 1/;", 8);
        fault("nave 0 1:;", 8);
        fault("nave 1 1 1;", 9);
    }

    private void blanks() {
        b.sentence(7, "blanks (32) between");
        items("  nave   0   0   ;   weeks   1   ;   ", 2);
        for (char other : new char[] {31, 33, 9, 10, 13, 0}) {
            fault("nave 0" + other + "0;", 6);
            fault(NAVE + other, 9);
        }
        fault("na ve 0 0;", 0);
        fault("nave 0 1 2;", 9);
    }

    private void wordThatIsNone() {
        b.sentence(7, "a word that is none");
        for (String word : new String[] {"n", "nav", "naves", "xave", "navy", "navee"}) {
            fault(word + " 0 0;", 0);
        }
        String[] none = {"s", "sa", "says", "sai", "ton", "ston", "stonyy", "atony", "dra", "drags", "weeksx", "week", "x"};
        for (String word : none) {
            later(word + " 1 1;", 0);
        }
        later("say 1 1;  sax 2 2;", 10);
        later("say x;", 4);
        later("say say 1 1;", 4);
    }

    private void naveAgain() {
        b.sentence(7, "nave again");
        later("nave 0 0;", 0);
        later("weeks 1;nave 0 0;", 8);
        later(" nave", 1);
    }

    private void aheadOfNave() {
        b.sentence(7, "anything ahead of it");
        fault("say 0 0;nave 0 0;", 0);
        fault("weeks 1;nave 0 0;", 0);
        fault("drag 1;", 0);
        fault("stony 0 0;", 0);
        fault(";nave 0 0;", 0);
        fault("  ;nave 0 0;", 2);
        fault("0 nave 0 0;", 0);
    }

    private void tenthNumber() {
        b.sentence(7, "a 10th number");
        later("drag 1 3 1 3 1 3 1 3 1 3;", 23);
        later("drag 1 3 1 3 1 3 1 3 1 9;", 23);
        later("drag 1 3 1 3 1 3 1 3 1 3", 23);
        later("drag 1 3 1 3 1 3 1 3 1", 22);
    }

    private void closedTooEarly() {
        b.sentence(7, "; where there is none");
        fault(";", 0);
        fault("nave;", 4);
        fault("nave 0;", 6);
        later(";", 0);
        later("say;", 3);
        later("say 1 ;", 6);
        later("stony ;", 6);
        later("drag ;", 5);
        later("weeks ;", 6);
        later("weeks 1;;", 8);
    }

    private void threeFigures() {
        b.sentence(7, "a run of three figures or more (at its first one)");
        fault("nave 000 0;", 5);
        fault("nave 0 024;", 7);
        fault("nave 0 0000;", 7);
        fault("1".repeat(150), 0);
        later("drag 1 003;", 7);
        later("weeks 001;", 6);
        later("001", 0);
        fault("nave 0 0001", 7);
    }

    private void numberNotAsTold() {
        b.sentence(7, "a number not as told");
        later("say 99 0;", 4);
        later("say 0 99;", 6);
        later("stony 99 0;", 6);
        later("stony 0 99;", 8);
        later("drag 99;", 5);
        later("drag 10;", 5);
        later("5;", 0);
    }

    private void lies() {
        b.sentence(7, "also a CELL in which something lies (say)");
        later("say 3 0;say 3 1;", 12);
        later("say 3 0;say 3", 12);
        later("say 1 0;drag 1;weeks 99;say 1 0;", 28);
        items(NAVE + "say 3 0;weeks 1;say 3 1;", 4);
        HarrowSaid x = new HarrowSaid();
        x.says(3, 0);
        Bounds.retype(x, NAVE + "say 3 1;");
        b.due("read(): what lay there before counts not", x.read(), 2);
        b.due("of(3, 1)", x.of(3, 1), 1);
        Bounds.retype(x, NAVE + "say 3 2;");
        b.due("read() again", x.read(), 2);
        Bounds.retype(x, NAVE + "say 3 2;x");
        x.read();
        Bounds.retype(x, NAVE + "say 3 4;");
        b.due("read() behind a fault: what was read till then counts not", x.read(), 2);
    }

    private void leadsOut() {
        b.sentence(7, "a STEP that leads out of the nave");
        fault("nave 0 0;drag 0;", 14);
        fault("nave 0 4;drag 0;", 14);
        fault("nave 0 0;drag 3;", 14);
        fault("nave 0 5;drag 3;", 14);
        fault("nave 0 4;drag 1;", 14);
        fault("nave 0 9;drag 1;", 14);
        fault("nave 0 20;drag 2;", 15);
        fault("nave 0 24;drag 2;", 15);
        later("drag 1 1 1 1 1;", 13);
        later("drag 1 1 1 1;drag 1;", 18);
        items(NAVE + "drag 1 1 1 1;drag 2 2 2 2;", 3);
    }

    private void byteThatBeginsNone() {
        b.sentence(7, "a byte that begins none, too");
        for (int sign = 0; sign < 128; sign++) {
            boolean begins = sign >= 'a' && sign <= 'z' || sign >= '0' && sign <= '9' || sign == ';' || sign == ' ';
            if (!begins) {
                fault((char) sign + NAVE, 0);
                fault("nave 0 0 " + (char) sign + ";", 9);
                later("weeks 1; " + (char) sign, 9);
            }
        }
    }

    private void endsTooEarly() {
        b.sentence(7, "the TEXT's length, if it ends too early (an empty one, too)");
        fault("", 0);
        fault(" ", 1);
        fault(" ".repeat(150), 150);
        String whole = "nave 0 0;stony 24 4;say 24 5;drag 1 2;weeks 9;";
        int items = 0;
        for (int length = 1; length <= whole.length(); length++) {
            String text = whole.substring(0, length);
            if (text.endsWith(";")) {
                items++;
                items(text, items);
                items(text + "  ", items);
            } else if (!endsInAWord(text)) {
                fault(text, length);
                fault(text + "  ", length + 2);
            }
        }
        fault("nave", 4);
        later("drag", 4);
        later("say", 3);
    }

    private static boolean endsInAWord(String text) {
        char last = text.charAt(text.length() - 1);
        return last >= 'a' && last <= 'z';
    }

    private void firstFault() {
        b.sentence(7, "FAULT: the place of the first byte of the first TOKEN that can not stand there");
        fault("nave 6 25;", 5);
        fault("nave 0 25 25;", 7);
        later("say 1 6;;", 6);
        later("say 1 1;say 1 6;", 12);
        later("drag 1 0 4;", 7);
        fault("nave 0 0?say", 8);
    }

    private void allStays() {
        b.sentence(7, "-10 less the FAULT: all stays.");
        String[] texts = {"", "nave 5 24", "nave 5 24;stony 1 4;say 0 0;drag 0;weeks 99;x", "nave 5 24;say 0 6;", "say 1 1;"};
        for (String text : texts) {
            HarrowSaid x = Bounds.rich();
            Bounds.retype(x, text);
            HarrowSaid y = Bounds.rich();
            Bounds.retype(y, text);
            b.due("read() of a fault", x.read() <= -10 ? 1 : 0, 1);
            b.due("status(0): a FAULT is none of BAD, NO, FULL", x.status(0), 0);
            b.same("read() of \"" + text + "\"", x, y);
        }
    }

    private void takesThePlace() {
        b.sentence(7, "A NAVE that is read takes the place of all but IMAGES, THE TEXT, THE FRACTION, STATUS");
        HarrowSaid x = Bounds.rich();
        x.stony(4, 4);
        x.says(99, 0);
        Bounds.retype(x, "nave 2 11;");
        b.due("read()", x.read(), 1);
        int[] counts = {0, 0, 0, 0, 11, 2};
        for (int what = 0; what < counts.length; what++) {
            b.due("count(" + what + ")", x.count(what), counts[what]);
        }
        for (int c = 0; c < 25; c++) {
            b.due("of(" + c + ", 0)", x.of(c, 0), 0);
        }
        b.due("count(9): THE TEXT stays", x.count(9), 10);
        b.due("part(0): THE FRACTION stays", x.part(0), 91);
        b.due("part(1)", x.part(1), 100);
        b.due("status(0): STATUS stays", x.status(0), 1);
        b.sentence(7, "(SEEN ones, MARKS none; nothing to undo)");
        b.due("count(6)", x.count(6), 0);
        b.due("count(7)", x.count(7), 0);
        b.due("count(8)", x.count(8), 0);
        b.due("undo()", x.undo(), HarrowSaid.NO);
        b.due("from(0): IMAGES stay", x.from(0), 1);
        b.due("count(6) from it", x.count(6), 2);
        b.due("from(1)", x.from(1), 1);
        b.due("count(3) from it", x.count(3), 9);
    }
}
