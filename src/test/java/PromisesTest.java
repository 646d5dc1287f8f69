/** For each promise, by its number: ordinary calls, the edges that the document names, and wrong numbers. */
public final class PromisesTest {

    private static final int NONE = CarpetHalls.NONE;
    private static int wrong = 0;
    private static int asked = 0;

    private static void due(int promise, String what, long got, long want) {
        asked++;
        if (got != want) {
            wrong++;
            System.out.println("promise " + promise + ": " + what + " answered " + got + ", due is " + want);
        }
    }

    // ---- helpers

    private static void write(CarpetHalls h, String text) {
        h.end(0);
        byte[] bytes = java.util.Arrays.copyOf(text.getBytes(java.nio.charset.StandardCharsets.ISO_8859_1),
                (text.length() + 19) / 20 * 20);
        java.nio.ByteBuffer b = java.nio.ByteBuffer.wrap(bytes);
        while (b.remaining() > 0) {
            h.feed(b.getInt(), b.getInt(), b.getInt(), b.getInt(), b.getInt());
        }
        h.end(text.length());
    }

    private static int law(CarpetHalls h, String text) {
        write(h, text);
        return h.law();
    }

    private static int orders(CarpetHalls h, String text) {
        write(h, text);
        return h.orders();
    }

    private static CarpetHalls hall(int wide, int high, int... sides) {
        CarpetHalls h = new CarpetHalls();
        h.hall(wide, high);
        for (int side : sides) {
            h.carpet(side, 0, 5);
        }
        return h;
    }

    /** What a carpet of side 3, kind 2, pile 7, number 1 costs at (4, 5) in year 6 in mood 8 by that sum. */
    private static int cost(String sum) {
        CarpetHalls h = new CarpetHalls();
        h.carpet(1, 0, 0);
        h.carpet(3, 2, 7);
        h.terms(0, 6);
        h.terms(2, 8);
        int law = law(h, "costs " + sum);
        h.force(law);
        return law < 0 ? -1000 - h.fault() : h.asks(1, 4, 5, 0);
    }

    /** Whether the test is so (1, 0) of that carpet there. */
    private static int so(String test) {
        CarpetHalls h = new CarpetHalls();
        h.carpet(1, 0, 0);
        h.carpet(3, 2, 7);
        h.terms(0, 6);
        h.terms(2, 8);
        int law = law(h, "bars if " + test);
        h.force(law);
        return law < 0 ? -1000 - h.fault() : h.asks(1, 4, 5, 1);
    }

    private static int lawFault(String text) {
        CarpetHalls h = new CarpetHalls();
        law(h, text);
        return h.fault();
    }

    private static int ordersFault(String text) {
        CarpetHalls h = new CarpetHalls();
        orders(h, text);
        return h.fault();
    }

    private static String times(String what, int n, String between) {
        StringBuilder s = new StringBuilder();
        for (int i = 0; i < n; i++) {
            s.append(i > 0 ? between : "").append(what);
        }
        return s.toString();
    }

    // ---- promises 1 to 7

    private static void newObject() {
        CarpetHalls h = new CarpetHalls();
        int[] counts = {0, 0, 0, 0, 0, 0, 0, 0, 0, 0, 0, 0, 0, -1, 0, 1, 0, 8, 8, -1};
        for (int i = 0; i < counts.length; i++) {
            due(1, "count(" + i + ")", h.count(i), counts[i]);
        }
        due(1, "status", h.status(), 0);
        due(1, "fault", h.fault(), NONE);
        due(1, "fluff", h.fluff(), 0);
        due(1, "stopped", h.stopped(), NONE);
        due(1, "drawn", h.drawn(0, 0), NONE);
    }

    private static void carpets() {
        CarpetHalls h = new CarpetHalls();
        for (int i = 0; i < 9; i++) {
            due(2, "carpet", h.carpet(i == 0 ? 12 : i, i % 4, i), i);
        }
        due(2, "a tenth", h.carpet(1, 0, 0), -5);
        due(2, "status", h.status(), -5);
        due(2, "a tenth that can't be", h.carpet(0, 0, 0), -1);
        int[][] bad = {{0, 0, 0}, {13, 0, 0}, {1, -1, 0}, {1, 4, 0}, {1, 0, -1}, {1, 0, 10}, {Integer.MIN_VALUE, 0, 0}};
        for (int[] b : bad) {
            due(2, "bad", new CarpetHalls().carpet(b[0], b[1], b[2]), -1);
        }
        due(2, "refused -1", h.count(8), 1);
        due(2, "refused -5", h.count(11), 1);
        due(2, "most", new CarpetHalls().carpet(12, 3, 9), 0);

        due(3, "side", h.of(0, 0), 12);
        due(3, "kind", h.of(3, 1), 3);
        due(3, "pile", h.of(8, 2), 8);
        for (int what = 3; what < 6; what++) {
            due(3, "rolled", h.of(1, what), NONE);
        }
        h.lay(1, 5, 6);
        due(3, "x", h.of(1, 3), 5);
        due(3, "y", h.of(1, 4), 6);
        due(3, "wears", h.of(1, 5), 1);
        due(3, "what 6", h.of(1, 6), NONE);
        due(3, "what -1", h.of(1, -1), NONE);
        due(3, "carpet 9", h.of(9, 0), NONE);
        due(3, "carpet -1", h.of(-1, 0), NONE);
        h.force(law(h, "wears 4 if x = 5 and y = 6;wears 6 if pile = 9"));
        due(3, "wears by law", h.of(1, 5), 4);
        h.force(law(h, "wears 40"));
        due(3, "wears at most", h.of(1, 5), 9);
        h.force(law(h, "wears 0 - 1"));
        due(3, "wears at least", h.of(1, 5), 0);
    }

    private static void hallAndCells() {
        CarpetHalls h = new CarpetHalls();
        due(4, "hall", h.hall(12, 12), 144);
        due(4, "hall", h.hall(1, 1), 1);
        due(4, "wide 0", h.hall(0, 1), -1);
        due(4, "wide 13", h.hall(13, 1), -1);
        due(4, "high 0", h.hall(1, 0), -1);
        due(4, "high 13", h.hall(1, 13), -1);
        due(4, "hall", h.hall(5, 4), 20);
        h.carpet(2, 0, 5);
        h.lay(0, 3, 2);
        due(4, "one is laid", h.hall(6, 6), -3);
        due(4, "one is laid, and it can't be", h.hall(0, 6), -1);
        due(4, "wide stays", h.count(17), 5);
        due(4, "high stays", h.count(18), 4);
        h.roll(0);
        due(4, "rolled", h.hall(6, 6), 36);
        h.lay(0, 3, 2);

        due(5, "at", h.at(3, 2), 0);
        due(5, "at", h.at(4, 3), 0);
        due(5, "left of it", h.at(2, 2), NONE);
        due(5, "right of it", h.at(5, 3), NONE);
        due(5, "above", h.at(3, 4), NONE);
        due(5, "no such cell", h.at(-1, 2), NONE);
        due(5, "no such cell", h.at(6, 2), NONE);
        due(5, "no such cell", h.at(Integer.MAX_VALUE, Integer.MIN_VALUE), NONE);

        h.carpet(3, 0, 1);
        h.carpet(1, 0, 0);
        h.force(law(h, "costs 7 if x > 9;bars if y = 11"));
        due(6, "cost", h.asks(1, 0, 0, 0), 3);
        due(6, "cost outside the hall", h.asks(1, 10, 0, 0), 7);
        due(6, "not barred", h.asks(1, 0, 10, 1), 0);
        due(6, "barred", h.asks(1, 0, 11, 1), 1);
        due(6, "can lie", h.asks(1, 0, 0, 2), 1);
        due(6, "overlaps", h.asks(1, 1, 0, 2), 0);
        due(6, "beyond the wall", h.asks(1, 4, 0, 2), 0);
        due(6, "is laid", h.asks(0, 0, 0, 2), 0);
        due(6, "is rags", h.asks(2, 0, 0, 2), 0);
        due(6, "rags cost", h.asks(2, 0, 0, 0), 1);
        due(6, "what 3", h.asks(1, 0, 0, 3), NONE);
        due(6, "what -1", h.asks(1, 0, 0, -1), NONE);
        due(6, "x 12", h.asks(1, 12, 0, 0), NONE);
        due(6, "x -1", h.asks(1, -1, 0, 0), NONE);
        due(6, "y 12", h.asks(1, 0, 12, 0), NONE);
        due(6, "no such carpet", h.asks(3, 0, 0, 0), NONE);
        int refused = h.count(8) + h.count(9) + h.count(10);
        h.asks(-1, 0, 0, 0);
        due(6, "NONE is no refusal", h.count(8) + h.count(9) + h.count(10), refused);
    }

    private static void theTerms() {
        CarpetHalls h = new CarpetHalls();
        due(7, "year", h.terms(0, 999), 0);
        due(7, "year", h.terms(0, 3), 999);
        due(7, "moths", h.terms(1, 10), 1);
        due(7, "moths", h.terms(1, 0), 10);
        due(7, "mood", h.terms(2, 9), 0);
        due(7, "mood", h.terms(2, 4), 9);
        due(7, "year 1000", h.terms(0, 1000), -1);
        due(7, "moths 11", h.terms(1, 11), -1);
        due(7, "mood 10", h.terms(2, 10), -1);
        due(7, "below 0", h.terms(0, -1), -1);
        due(7, "term 3", h.terms(3, 0), -1);
        due(7, "term -1", h.terms(-1, 0), -1);
        due(7, "year is", h.count(14), 3);
        due(7, "moths are", h.count(15), 0);
        due(7, "mood is", h.count(16), 4);
    }

    // ---- promises 8 to 16: the tape, laws, orders

    private static void theTape() {
        CarpetHalls h = new CarpetHalls();
        for (int i = 1; i <= 20; i++) {
            due(8, "feed", h.feed(0, 0, 0, 0, 0), 20 * i);
        }
        due(8, "beyond 400", h.feed(0, 0, 0, 0, 0), NONE);
        due(8, "bytes", h.count(7), 400);
        due(9, "end(401)", h.end(401), NONE);
        due(9, "end(-1)", h.end(-1), NONE);
        due(9, "end(400)", h.end(400), 400);
        due(9, "end(381)", h.end(381), 381);
        due(8, "beyond 400 by one", h.feed(0, 0, 0, 0, 0), NONE);
        due(9, "end(3)", h.end(3), 3);
        due(9, "end(4)", h.end(4), NONE);
        due(9, "end(0)", h.end(0), 0);
        due(9, "status is not told of end", h.status(), 0);
        // The highest byte first, bytes above 127 too.
        h.feed(0x01020304, 0xFF000000, 0, 0, 0);
        h.end(6);
        due(8, "row of them", h.row(), 1);
        due(8, "side", h.of(0, 0), 1);
        due(8, "kind", h.of(0, 1), 2);
        due(8, "pile", h.of(0, 2), 3);
    }

    private static void rows() {
        CarpetHalls h = new CarpetHalls();
        due(10, "empty", h.row(), -6);
        due(11, "fluff ahead of any", h.fluff(), 0);
        write(h, "\1\0\1\14\3\11\15\0\0\1\4\0\1\0\12\0\0\0\1\0");
        due(10, "row", h.row(), 2);
        due(11, "fluff", h.fluff(), 5);
        due(10, "tape is empty then", h.count(7), 0);
        due(10, "empty", h.row(), -6);
        due(11, "fluff stays behind a refusal", h.fluff(), 5);
        write(h, times("\1\1\1", 9, ""));
        due(10, "room for seven", h.row(), 7);
        due(11, "two had no room", h.fluff(), 2);
        write(h, "\1");
        due(10, "nothing came", h.row(), 0);
        due(11, "one within which it ends", h.fluff(), 1);
        due(10, "refused -6", h.count(12), 2);
        write(h, "\1\1\1\1\1\1");
        h.row();
        h.image(0);
        write(h, "\0");
        h.row();
        h.back(0);
        due(11, "images don't keep it", h.fluff(), 1);
    }

    private static void laws() {
        CarpetHalls h = new CarpetHalls();
        for (int i = 0; i < 6; i++) {
            due(12, "law", law(h, "costs " + i), i);
        }
        law(h, "x");
        due(12, "a seventh", h.status(), -5);
        due(12, "a seventh's tape", h.count(7), 0);
        due(14, "a seventh is not read", h.fault(), NONE);
        due(12, "laws", h.count(5), 6);

        h = new CarpetHalls();
        due(12, "blanks alone", law(h, "   "), -6);
        due(14, "at the end", h.fault(), 3);
        due(12, "nothing", h.law(), -6);
        due(14, "at the end", h.fault(), 0);
        due(12, "its tape", law(h, "bars if"), -6);
        due(12, "tape is empty then", h.count(7), 0);
        due(14, "fault", h.fault(), 7);
        due(12, "a law", law(h, "bars"), 0);
        due(14, "no fault", h.fault(), NONE);
        h.image(0);
        law(h, "? ");
        h.back(0);
        due(14, "images don't keep it", h.fault(), 0);
        due(14, "status is told of back", h.status(), 0);
    }

    private static void sums() {
        due(12, "words", cost("carpet + 10 * side"), 31);
        due(12, "words", cost("kind * 10 + pile"), 27);
        due(12, "words", cost("x * 10 + y"), 45);
        due(12, "words", cost("year * 10 + mood"), 68);
        due(12, "from the left", cost("20 - 5 - 3"), 12);
        due(12, "from the left", cost("100 / 10 / 5"), 2);
        due(12, "from the left", cost("17 % 10 * 3"), 21);
        due(12, "terms first", cost("1 + 2 * 3"), 7);
        due(12, "brackets", cost("[1 + 2] * 3"), 9);
        due(12, "cut towards 0", cost("50 + [0 - 7] / 2"), 47);
        due(12, "what is left", cost("50 + [0 - 7] % 2"), 49);
        due(12, "what is left", cost("50 + 7 % [0 - 2]"), 51);
        due(12, "no blanks", cost("x+y*2"), 14);
        due(12, "digits then letters", cost("1+x"), 5);
        due(12, "at most 99", cost("1000"), 99);
        due(12, "at least 0", cost("0 - 1"), 0);
        due(12, "zeros ahead", cost("0000000000000000000012"), 12);
        due(12, "divided by 0: it doesn't hold", cost("1 / 0"), 3);
        due(12, "modulo 0", cost("1 % [x - 4]"), 3);
        due(12, "1,000,000,000 is not beyond", cost("1000 * 1000 * 1000"), 99);
        due(12, "beyond", cost("1000 * 1000 * 1000 + 1"), 3);
        due(12, "beyond on the way", cost("1000 * 1000 * 1000 + 1 - 1000"), 3);
        due(12, "below", cost("0 - 1000 * 1000 * 1000"), 0);
        due(12, "beyond below", cost("0 - 1000 * 1000 * 1000 - 1"), 3);
        due(12, "far beyond", cost(times("1000", 20, "*")), 3);
        due(12, "the last that holds", cost("1;costs 2;costs 3 if x = 3"), 2);
        due(12, "the last that holds", cost("1;costs 2 / 0"), 1);
        due(12, "the last that holds", cost("1;costs 2 if 1 / 0 = 1"), 1);
        due(12, "others don't matter", cost("1;wears 9;bars"), 1);
    }

    private static void tests() {
        due(12, "<", so("1 < 2"), 1);
        due(12, "<", so("2 < 2"), 0);
        due(12, ">", so("2 > 1"), 1);
        due(12, ">", so("2 > 2"), 0);
        due(12, "=", so("2 = 1 + 1"), 1);
        due(12, "not", so("not 1 = 1"), 0);
        due(12, "not not", so("not not 1 = 1"), 1);
        due(12, "not binds closer", so("not 1 = 2 and 1 = 2"), 0);
        due(12, "and binds closer", so("1 = 1 or 1 = 1 and 1 = 2"), 1);
        due(12, "brackets", so("(1 = 1 or 1 = 1) and 1 = 2"), 0);
        due(12, "not of brackets", so("not (1 = 2 or 2 = 1)"), 1);
        due(12, "or doesn't ask", so("1 = 1 or 1 / 0 = 1"), 1);
        due(12, "or asks", so("1 = 2 or 1 / 0 = 1"), 0);
        due(12, "and doesn't ask", so("1 = 2 and 1 / 0 = 1 or 1 = 1"), 1);
        due(12, "and asks", so("1 = 1 and 1 / 0 = 1 or 1 = 1"), 0);
        due(12, "broken stays", so("1 / 0 = 1 or 1 = 1"), 0);
        due(12, "not broken is broken", so("not 1 / 0 = 1"), 0);
        due(12, "or thrice", so("1 = 2 or 2 = 3 or 3 = 3"), 1);
        due(12, "and thrice", so("1 = 1 and 2 = 2 and 3 = 4"), 0);
        due(12, "or, then not asked twice", so("1 = 1 or 1 / 0 = 1 or 1 / 0 = 2"), 1);
        due(12, "many nots", so(times("not ", 60, "") + "1 = 1"), 1);
        due(12, "many nots", so(times("not ", 61, "") + "1 = 1"), 0);
    }

    private static void faults() {
        due(14, "no such clause", lawFault("lay 1"), 0);
        due(14, "blanks ahead", lawFault("   cost 1"), 3);
        due(14, "longest rows", lawFault("costsx 1"), 0);
        due(14, "longest rows", lawFault("costs 1x"), 7);
        due(14, "capitals", lawFault("Costs 1"), 0);
        due(14, "a to z are letters", lawFault("barsz"), 0);
        due(14, "a to z are letters", lawFault("abars"), 0);
        due(14, "what stands ahead of a", lawFault("bars`"), 4);
        due(14, "what stands behind z", lawFault("bars{"), 4);
        due(14, "0 to 9 are digits", lawFault("costs 109 + 90"), NONE);
        due(14, "400 tokens", lawFault(times(";", 400, "")), 0);
        due(14, "398 tokens more", lawFault("bars" + times("+", 396, "")), 4);
        due(14, "a bar behind", lawFault("bars 1"), 5);
        due(14, "an empty clause", lawFault("bars;"), 5);
        due(14, "an empty clause", lawFault("bars;;bars"), 5);
        due(14, "an empty clause and blanks", lawFault("bars;  "), 7);
        due(14, "no comparison", lawFault("bars if (1 + 2) < 3"), 14);
        due(14, "two comparisons", lawFault("bars if 1 < 2 < 3"), 14);
        due(14, "round brackets in a sum", lawFault("costs (1)"), 6);
        due(14, "square brackets round a test", lawFault("bars if [1 = 1]"), 11);
        due(14, "the other bracket", lawFault("costs [1)"), 8);
        due(14, "an open bracket", lawFault("costs [1"), 8);
        due(14, "1001", lawFault("costs 1001"), 6);
        due(14, "long digits", lawFault("costs 99999999999999999999"), 6);
        due(14, "1000", lawFault("costs 1000"), NONE);
        due(14, "a minus ahead", lawFault("costs -1"), 6);
        due(14, "a word of orders", lawFault("costs done"), 6);
        due(14, "if twice", lawFault("bars if x = 1 if y = 1"), 14);
        due(14, "times in a law", lawFault("bars times 2"), 5);
        due(14, "and in a sum", lawFault("costs 1 and 2"), 8);
        due(14, "other bytes", lawFault("bars\t"), 4);
        due(14, "other bytes", lawFault("bars \u00e1"), 5);
        due(14, "a byte 0", lawFault("\0"), 0);
        due(14, "12 clauses", lawFault(times("bars", 12, ";")), NONE);
        due(14, "13 clauses", lawFault(times("bars", 13, ";")), 60);
        due(14, "13th, not a clause", lawFault(times("bars", 12, ";") + ";  ?"), 62);
        due(14, "13th, the end", lawFault(times("bars", 12, ";") + "; "), 61);
        due(14, "50 parts", lawFault("costs " + times("1", 50, "+")), NONE);
        due(14, "51 parts", lawFault("costs " + times("1", 51, "+")), 106);
        due(14, "51 parts in clauses", lawFault("costs " + times("1", 25, "+") + ";wears " + times("x", 26, "+")), 112);
        due(14, "50 parts with brackets", lawFault("costs " + times("[1]", 50, "+")), NONE);
        due(14, "51st is the end", lawFault("costs " + times("1", 50, "+") + "+"), 106);
        due(14, "51st is no part", lawFault("costs " + times("1", 50, "+") + "+;bars"), 106);
        due(14, "51st is a word", lawFault("costs " + times("1", 50, "+") + " if x = 1"), 109);
        due(14, "8 brackets", lawFault("costs " + times("[", 8, "") + "1" + times("]", 8, "")), NONE);
        due(14, "9 brackets", lawFault("costs " + times("[", 9, "") + "1" + times("]", 9, "")), 14);
        due(14, "8 of both", lawFault("bars if ((((([[[1]]] = 1)))))"), NONE);
        due(14, "9 of both", lawFault("bars if ((((([[[[1]]]] = 1)))))"), 16);
        due(14, "one behind the other", lawFault("costs " + times("[[1]]", 20, "+")), NONE);
        due(14, "a long text", lawFault("bars" + times(" ", 396, "")), NONE);
        due(14, "a long text", lawFault("costs" + times(" ", 395, "")), 400);

        due(14, "order", ordersFault("lay 0 at 0 by 0"), NONE);
        due(14, "lay alone", ordersFault("lay"), 3);
        due(14, "no at", ordersFault("lay 0 by 0"), 6);
        due(14, "no by", ordersFault("lay 0 at 0"), 10);
        due(14, "no at", ordersFault("lay 0 1 by 2"), 6);
        due(14, "no by", ordersFault("lay 0 at 1 2"), 11);
        due(14, "mirror with a sum", ordersFault("mirror 1"), 7);
        due(14, "times 0", ordersFault("pass times 0"), 11);
        due(14, "times 20", ordersFault("pass times 20 if 1 = 2"), NONE);
        due(14, "times 21", ordersFault("pass times 21"), 11);
        due(14, "times a word", ordersFault("pass times year"), 11);
        due(14, "times behind if", ordersFault("pass if 1 = 2 times 2"), 14);
        due(14, "pile 8", ordersFault("roll pile 8 if 1 = 2"), NONE);
        due(14, "pile 9", ordersFault("roll pile 9"), 10);
        due(14, "pile alone", ordersFault("roll pile"), 9);
        due(14, "laid of a word", ordersFault("roll laid done"), 10);
        due(14, "a word of laws", ordersFault("roll mood"), 5);
        due(14, "a law", ordersFault("costs 1"), 0);
        due(14, "C is no part", ordersFault("roll " + times("pile 1", 49, "+") + " if 1 = 2"), 5 + 49 * 7 - 1 + 8);
        due(14, "C is no part", ordersFault("roll " + times("pile 1", 48, "+") + " if 1 = 2"), NONE);
        due(14, "TIMES is no part", ordersFault("roll " + times("1", 48, "+") + " times 2 if 1 = 2"), NONE);
        due(14, "12 clauses", ordersFault(times("pass", 12, ";")), NONE);
        due(14, "13 clauses", ordersFault(times("pass", 13, ";")), 60);
    }

    private static void theOrders() {
        CarpetHalls h = hall(4, 4, 2, 2, 1);
        due(13, "lays", orders(h, "lay 0 at 0 by 0;lay 1 at 2 by 2"), 2);
        due(13, "laid", h.at(3, 3), 1);
        due(13, "undone one by one", h.count(6), 2);
        due(13, "times", orders(h, "mirror times 3"), 3);
        due(13, "laid", h.at(3, 3), NONE);
        due(13, "not so", orders(h, "roll 0 if bare = 1"), 0);
        due(13, "broken if", orders(h, "roll 0 if 1 / 0 = 1"), 0);
        due(15, "none", h.stopped(), NONE);
        due(13, "broken sum", orders(h, "mirror;roll 1 / 0"), -3);
        due(15, "the second", h.stopped(), 1);
        due(13, "as it was", h.of(0, 3), 2);
        due(13, "as it was", h.count(6), 5);
        due(13, "status", h.status(), -3);
        due(13, "counted once", h.count(10), 1);
        due(13, "no such carpet is -3 too", orders(h, "roll 7"), -3);
        due(13, "not counted as -2", h.count(9), 0);
        due(13, "no such cell", orders(h, "lay 2 at 12 by 0"), -3);
        due(13, "far numbers", orders(h, "lay 2 at 1000 * 1000 * 1000 by 0"), -3);
        due(13, "far numbers", orders(h, "roll 0 - 1000 * 1000 * 1000"), -3);
        due(13, "sums from the left", orders(h, "lay 9 at 1 / 0 by 0"), -3);
        due(13, "fault", h.fault(), NONE);
        due(13, "a text that can't be", orders(h, "roll"), -6);
        due(15, "none", h.stopped(), NONE);
        due(13, "blanks", orders(h, "  "), -6);
        due(14, "at the end", h.fault(), 2);
        due(13, "nothing", h.orders(), -6);
        due(14, "at the end", h.fault(), 0);

        // The words: done, latest, bare, paid, year, pile, laid.
        h = hall(4, 4, 2, 1);
        due(13, "done", orders(h, "mirror times 5 if done < 3;pass if done = 3"), 4);
        due(13, "latest", orders(h, "lay latest + 1 at 0 by 0;lay 1 at latest by latest"), 2);
        due(13, "latest", h.at(2, 2), 1);
        due(13, "bare", orders(h, "roll 0 if bare = 11;roll 1 if bare = 15"), 2);
        due(13, "paid", orders(h, "mirror if paid = 3"), 1);
        due(13, "year", orders(h, "pass times 4 if year < 4"), 3);
        due(13, "pile", orders(h, "mirror if pile 0 = 5;mirror if pile 2 = 0 - 1"), 2);
        due(13, "laid", orders(h, "lay 0 at 0 by 0 if laid 0 = 0;roll 0 if laid 0 = 1;mirror if laid 2 = 0 - 1"), 3);
        due(13, "latest is this text's", orders(h, "mirror if latest = 0 - 1 and done = 0"), 1);
        due(13, "a year that can't be", orders(h, "pass times 20 if 1 = 1;pass times 20;pass times 20"), 60);
        h.terms(0, 998);
        due(13, "a year that can't be", orders(h, "mirror;pass times 2"), -3);
        due(15, "its clause", h.stopped(), 1);
        due(13, "year as it was", h.count(14), 998);
        due(13, "nothing to undo, as it was", h.count(6), 0);

        // What could be undone ahead is so again, though more than sixteen were done.
        h = hall(4, 4, 1);
        h.lay(0, 1, 1);
        h.mirror();
        due(13, "many, then one that can't be", orders(h, "mirror times 20;mirror times 20;lay 0 at 0 by 0"), -3);
        due(13, "two as ahead", h.count(6), 2);
        due(13, "undo", h.undo(), 2);
        due(13, "undo", h.undo(), 0);
        due(13, "undo", h.undo(), -3);
        due(13, "sixteen", orders(h, "mirror times 20"), 20);
        due(13, "sixteen", h.count(6), 16);
        h.image(0);
        orders(h, "roll 8");
        h.back(0);
        due(15, "images don't keep it", h.stopped(), 0);
    }

    private static void forces() {
        CarpetHalls h = new CarpetHalls();
        h.carpet(1, 0, 1);
        due(16, "no such law", h.force(0), -2);
        due(16, "status", h.status(), -2);
        due(16, "none", h.force(NONE), NONE);
        due(16, "status", h.status(), 0);
        law(h, "costs 5");
        law(h, "costs 6");
        due(16, "a law alone is not in force", h.asks(0, 0, 0, 0), 1);
        due(16, "none was", h.force(1), NONE);
        due(16, "in force", h.asks(0, 0, 0, 0), 6);
        due(16, "1 was", h.force(0), 1);
        due(16, "in force", h.asks(0, 0, 0, 0), 5);
        due(16, "no such law", h.force(2), -2);
        due(16, "below NONE", h.force(-2), -2);
        due(16, "stays", h.count(13), 0);
        due(16, "0 was", h.force(NONE), 0);
        due(16, "none", h.count(13), NONE);
        due(16, "refused -2", h.count(9), 3);
    }

    // ---- promises 17 to 21: deeds

    private static void deeds() {
        CarpetHalls h = hall(5, 4, 2, 3, 1);
        h.carpet(1, 0, 0);
        due(17, "lay", h.lay(0, 3, 2), 2);
        due(17, "laid already", h.lay(0, 0, 0), -3);
        due(17, "covers another", h.lay(1, 1, 1), -3);
        due(17, "beyond the right wall", h.lay(1, 3, 0), -3);
        due(17, "beyond the upper wall", h.lay(1, 0, 2), -3);
        due(17, "overlaps", h.lay(1, 2, 1), -3);
        due(17, "rags", h.lay(3, 0, 0), -3);
        due(17, "x 12", h.lay(1, 12, 0), -1);
        due(17, "y -1", h.lay(1, 0, -1), -1);
        due(17, "no such carpet", h.lay(4, 0, 0), -2);
        due(17, "no such carpet, no such cell", h.lay(4, 12, 0), -1);
        due(17, "no such carpet", h.lay(-1, 11, 11), -2);
        due(17, "paid", h.count(3), 2);
        h.force(law(h, "costs 99;bars if x = 0"));
        due(17, "barred", h.lay(2, 0, 0), -3);
        due(17, "lay", h.lay(2, 1, 0), 99);
        due(17, "paid", h.count(3), 101);

        due(18, "roll", h.roll(0), 19);
        due(18, "rolled", h.roll(0), -3);
        due(18, "no such carpet", h.roll(4), -2);
        due(18, "no such carpet", h.roll(-1), -2);
        due(18, "x", h.of(0, 3), NONE);
        due(18, "paid stays", h.count(3), 101);

        due(19, "mirror", h.mirror(), 1);
        due(19, "x", h.of(2, 3), 3);
        due(19, "y", h.of(2, 4), 0);
        h.roll(2);
        h.lay(1, 1, 1);
        due(19, "in the middle", h.mirror(), 1);
        due(19, "x", h.of(1, 3), 1);
        h = hall(5, 4, 2);
        h.force(law(h, "bars if x = 0"));
        h.lay(0, 3, 0);
        due(19, "bars don't matter", h.mirror(), 1);
        due(19, "x", h.of(0, 3), 0);
    }

    private static void paidHasAnEnd() {
        CarpetHalls h = hall(1, 1, 1);
        h.force(law(h, "costs 99"));
        for (int i = 0; i < 102; i++) {
            h.lay(0, 0, 0);
            h.roll(0);
        }
        due(17, "9,999 at most", h.count(3), 9999);
        due(17, "costs still", h.lay(0, 0, 0), 99);
        h.undo();
        h.undo();
        h.undo();
        due(21, "paid undone", h.count(3), 9999);
        h = hall(1, 1, 1);
        h.force(law(h, "costs 99"));
        for (int i = 0; i < 101; i++) {
            h.lay(0, 0, 0);
            h.roll(0);
        }
        due(17, "all but", h.count(3), 9999);
        h.undo();
        h.undo();
        due(21, "paid undone", h.count(3), 9900);
    }

    private static void yearsPass() {
        CarpetHalls h = new CarpetHalls();
        h.carpet(1, 0, 1);
        h.carpet(1, 1, 5);
        h.carpet(1, 2, 2);
        h.carpet(1, 3, 3);
        h.lay(0, 0, 0);
        h.lay(1, 1, 0);
        h.lay(2, 2, 0);
        due(20, "one is rags", h.pass(), 1);
        due(20, "rolled", h.of(0, 3), NONE);
        due(20, "pile", h.of(0, 2), 0);
        due(20, "pile", h.of(1, 2), 4);
        due(20, "rolled ones don't wear", h.of(3, 2), 3);
        due(20, "year", h.count(14), 1);
        due(20, "rags", h.count(2), 1);
        h.force(law(h, "wears 9 if kind = 1;wears 0 if kind = 2"));
        due(20, "by law", h.pass(), 1);
        due(20, "0 at least", h.of(1, 2), 0);
        due(20, "wears 0", h.of(2, 2), 1);
        h.force(law(h, "wears year - 2"));
        due(20, "asked as it was ahead", h.pass(), 0);
        due(20, "year", h.count(14), 3);
        due(20, "then", h.pass(), 1);
        h.terms(0, 998);
        due(20, "998", h.pass(), 0);
        due(20, "999", h.pass(), -3);
        due(20, "year", h.count(14), 999);
    }

    private static void undoes() {
        CarpetHalls h = hall(4, 4, 1, 2);
        due(21, "none", h.undo(), -3);
        h.lay(0, 0, 0);
        h.roll(0);
        h.mirror();
        h.pass();
        due(21, "count", h.count(6), 4);
        due(21, "pass", h.undo(), 3);
        due(21, "year", h.count(14), 0);
        due(21, "mirror", h.undo(), 2);
        due(21, "roll", h.undo(), 1);
        due(21, "laid again", h.at(0, 0), 0);
        due(21, "lay", h.undo(), 0);
        due(21, "rolled again", h.at(0, 0), NONE);
        due(21, "paid", h.count(3), 0);
        due(21, "none", h.undo(), -3);
        for (int i = 0; i < 20; i++) {
            h.mirror();
        }
        due(21, "sixteen", h.count(6), 16);
        for (int i = 0; i < 16; i++) {
            due(21, "mirror", h.undo(), 2);
        }
        due(21, "none", h.undo(), -3);

        // What hinders it, and what doesn't.
        h.lay(0, 0, 0);
        h.hall(5, 5);
        due(21, "a refused hall doesn't hinder", h.count(6), 1);
        h.carpet(0, 0, 0);
        due(21, "a refused carpet doesn't", h.count(6), 1);
        h.terms(5, 0);
        due(21, "a refused term doesn't", h.count(6), 1);
        h.row();
        due(21, "a refused row doesn't", h.count(6), 1);
        h.force(law(h, "bars;costs 7"));
        h.seen(0, 0, 1);
        h.forget();
        h.image(0);
        h.years(1, 1);
        h.lay(9, 0, 0);
        due(21, "others don't", h.count(6), 1);
        due(21, "undo", h.undo(), 0);
        h.force(NONE);
        h.lay(0, 0, 0);
        h.carpet(1, 0, 1);
        due(21, "behind a carpet", h.undo(), -3);
        CarpetHalls empty = new CarpetHalls();
        empty.mirror();
        empty.carpet(1, 0, 1);
        due(21, "behind the first carpet", empty.undo(), -3);
        h.mirror();
        h.terms(1, 1);
        due(21, "behind a term", h.undo(), -3);
        h.mirror();
        write(h, "\0\0\0");
        h.row();
        due(21, "behind a row", h.undo(), -3);
        h.roll(0);
        h.hall(4, 4);
        due(21, "behind a hall", h.undo(), -3);
        h.mirror();
        h.image(1);
        due(21, "image keeps it", h.count(6), 1);
        h.back(1);
        due(21, "behind back", h.undo(), -3);
    }

    // ---- promises 22 to 32: questions of the floor

    private static void fills() {
        CarpetHalls h = hall(3, 2, 2, 1, 1);
        due(22, "bare", h.bare(0), 6);
        h.lay(1, 0, 0);
        due(22, "x", h.bare(1), 1);
        due(22, "y", h.bare(2), 0);
        h.roll(1);
        h.lay(0, 1, 0);
        h.lay(1, 0, 0);
        due(22, "x", h.bare(1), 0);
        due(22, "y", h.bare(2), 1);
        due(22, "what 3", h.bare(3), NONE);
        due(22, "what -1", h.bare(-1), NONE);
        h.lay(2, 0, 1);
        due(22, "none", h.bare(0), 0);
        due(22, "none", h.bare(1), NONE);
        due(22, "none", h.bare(2), NONE);
        due(23, "none is bare", h.fill(NONE), 0);
        due(23, "none is bare", h.fill(0), NONE);
        due(24, "none is bare", h.ways(), 1);
        due(25, "none is bare", h.cheapest(), 0);

        h = hall(3, 2, 1, 1, 2);
        due(23, "the first row", h.fill(NONE), 3);
        due(23, "its first", h.fill(0), 0);
        due(23, "its second", h.fill(1), 2);
        due(23, "its third", h.fill(2), 1);
        due(23, "no fourth", h.fill(3), NONE);
        due(23, "below NONE", h.fill(-2), NONE);
        due(24, "ways", h.ways(), 4);
        due(25, "cheapest", h.cheapest(), 4);
        h.force(law(h, "costs 10;costs 1 if side = 2 and x = 1;costs 50 if carpet = 0 and y = 1"));
        due(25, "cheapest by law", h.cheapest(), 21);
        h.force(law(h, "bars if side = 2 and x = 1"));
        due(24, "barred", h.ways(), 2);
        due(23, "barred", h.fill(0), 2);
        h.force(law(h, "bars if side = 2"));
        due(24, "none", h.ways(), 0);
        due(23, "none", h.fill(NONE), NONE);
        due(23, "none", h.fill(0), NONE);
        due(25, "none", h.cheapest(), NONE);

        h = hall(3, 3, 1, 1, 1, 1, 1, 1, 1, 1, 1);
        due(24, "as many as can be", h.ways(), 362880);
        due(23, "length", h.fill(NONE), 9);
        due(23, "the last", h.fill(8), 8);
        h.lay(4, 1, 1);
        due(24, "round the middle", h.ways(), 40320);
        due(23, "round the middle", h.fill(4), 5);

        // More carpets than are needed: rows of unlike lengths.
        h = hall(2, 2, 1, 2, 1, 1, 1);
        due(24, "ways", h.ways(), 25);
        due(23, "length", h.fill(NONE), 4);
        due(25, "cheapest", h.cheapest(), 2);
        h = hall(2, 2, 2, 1, 1, 1, 1);
        due(23, "length", h.fill(NONE), 1);
        // Rags and a wall in the way.
        h = hall(2, 1, 1);
        h.carpet(1, 0, 0);
        due(24, "rags don't fill", h.ways(), 0);
        h.carpet(1, 0, 1);
        due(24, "two", h.ways(), 2);
        // A lower carpet that is LAID stands in the way of a larger one.
        h = hall(3, 3, 1, 2, 3, 1, 1, 1, 1);
        h.lay(0, 1, 1);
        due(24, "nothing larger fits", h.ways(), 0);
        // What others know: more keys than are kept.
        h = hall(12, 3, 1, 3, 1, 3, 1, 2, 1, 1, 3);
        due(24, "many keys", h.ways(), 28800);
        due(25, "many keys", h.cheapest(), 16);
    }

    private static void hallsOfAll() {
        CarpetHalls h = hall(8, 8);
        due(26, "no carpets", h.halls(NONE), 0);
        due(26, "no carpets", h.halls(0), NONE);
        h.carpet(3, 0, 0);
        due(26, "all are rags", h.halls(NONE), 0);
        h.carpet(2, 0, 1);
        h.carpet(1, 0, 1);
        h.carpet(1, 0, 1);
        due(26, "two", h.halls(NONE), 2);
        due(26, "the first", h.halls(0), 203);
        due(26, "the second", h.halls(1), 302);
        due(26, "no third", h.halls(2), NONE);
        due(26, "below NONE", h.halls(-2), NONE);
        h.lay(1, 3, 3);
        h.lay(2, 6, 6);
        due(26, "whatever is laid", h.halls(NONE), 2);
        h.force(law(h, "bars if x = 1"));
        due(26, "barred", h.halls(0), 302);
        due(26, "barred", h.halls(NONE), 1);
        h = hall(1, 1, 12);
        due(26, "12 at most", h.halls(0), 1212);
        h.carpet(1, 0, 1);
        due(26, "145 cells", h.halls(NONE), 0);
        h = hall(1, 1, 1, 1, 1, 1, 1, 1, 1, 1, 1);
        due(26, "nine", h.halls(NONE), 3);
        due(26, "rising", h.halls(0), 109);
        due(26, "rising", h.halls(1), 303);
        due(26, "rising", h.halls(2), 901);
        // 13 cells in a row are too many.
        h = hall(1, 1, 3, 2);
        due(26, "13 in a row", h.halls(NONE), 0);
        due(26, "the floor stays", h.count(17), 1);
    }

    private static void floorsAsTheyLie() {
        CarpetHalls h = hall(3, 2, 1, 1, 1, 1, 1, 1);
        due(27, "none", h.inner(), 0);
        for (int c = 0; c < 6; c++) {
            h.lay(c, c % 3, c / 3);
        }
        // 18 rectangles, six of one carpet, one is the hall.
        due(27, "inner", h.inner(), 11);
        due(28, "crosses", h.crosses(), 2);
        due(31, "alike", h.alike(), 15);
        h.roll(4);
        due(28, "crosses", h.crosses(), 0);
        due(27, "inner", h.inner(), 5);

        h = hall(4, 4, 2, 1, 1, 2, 2);
        h.lay(0, 0, 0);
        h.lay(1, 2, 0);
        h.lay(2, 3, 0);
        h.lay(3, 2, 1);
        due(27, "two alone", h.inner(), 1 + 1);
        due(28, "three meet", h.crosses(), 0);
        due(31, "alike", h.alike(), 2);
        due(29, "begin at 0", h.currents(0, 0), 4);
        due(29, "begin at 1", h.currents(1, 0), 2);
        due(29, "end at 1", h.currents(1, 1), 2);
        due(29, "end at 2", h.currents(2, 1), 2);
        due(29, "end at 3", h.currents(3, 1), 2);
        due(29, "at HIGH", h.currents(4, 1), 0);
        due(29, "beyond HIGH", h.currents(5, 1), NONE);
        due(29, "below 0", h.currents(-1, 0), NONE);
        due(29, "what 2", h.currents(0, 2), NONE);
        due(29, "what -1", h.currents(0, -1), NONE);
        due(30, "1", h.fitting(1), 6);
        due(30, "2", h.fitting(2), 1);
        due(30, "3", h.fitting(3), 0);
        due(30, "12", h.fitting(12), 0);
        due(30, "0", h.fitting(0), NONE);
        due(30, "13", h.fitting(13), NONE);
        due(30, "below 0", h.fitting(Integer.MIN_VALUE), NONE);

        // Four of unlike sides round a point; four cells of three carpets do not count.
        h = hall(12, 12, 3, 2, 4, 1);
        h.lay(0, 0, 0);
        h.lay(1, 3, 1);
        h.lay(3, 2, 3);
        h.lay(2, 3, 3);
        due(28, "four", h.crosses(), 1);
        h.mirror();
        due(28, "four", h.crosses(), 1);
        due(31, "alike", h.alike(), 0);
    }

    private static void whatIsFree() {
        CarpetHalls h = hall(3, 2, 2, 1, 1);
        due(32, "none is laid", h.free(), 0);
        h.lay(0, 0, 0);
        h.lay(1, 2, 0);
        due(32, "the first", h.free(), 1);
        h.lay(2, 2, 1);
        due(32, "it alone", h.free(), 0);
        // It is barred where it lies, and one other fills its place alone.
        h = hall(2, 1, 1, 1, 1);
        h.lay(0, 0, 0);
        h.lay(1, 1, 0);
        due(32, "two rows", h.free(), 0);
        h.force(law(h, "bars if carpet = 0"));
        due(32, "another one alone", h.free(), 1);
        h.force(law(h, "bars if carpet = 0 or carpet = 2"));
        due(32, "no row", h.free(), 0);
        // Two rows are not one.
        h = hall(2, 2, 1, 1, 1, 1);
        h.lay(0, 0, 0);
        h.lay(1, 1, 0);
        due(32, "six rows", h.free(), 0);
        due(32, "laid still", h.count(1), 2);
    }

    // ---- promises 33 to 40

    private static void whatWasSeen() {
        CarpetHalls h = hall(3, 2, 2, 1, 1);
        due(33, "x 12", h.seen(12, 0, 1), -1);
        due(33, "x -1", h.seen(-1, 0, 1), -1);
        due(33, "y 12", h.seen(0, 12, 1), -1);
        due(33, "y -1", h.seen(0, -1, 1), -1);
        due(33, "side 0", h.seen(0, 0, 0), -1);
        due(33, "side 13", h.seen(0, 0, 13), -1);
        due(34, "nothing", h.forget(), 0);
        for (int i = 1; i <= 6; i++) {
            due(33, "seen", h.seen(11, 11, 12), i);
        }
        due(33, "a seventh", h.seen(0, 0, 1), -5);
        due(33, "a seventh that can't be", h.seen(0, 0, 0), -1);
        due(35, "not in the hall", h.floors(), 0);
        due(36, "no floors", h.look(0), NONE);
        due(24, "ways don't heed it", h.ways(), 4);
        due(34, "forget", h.forget(), 6);
        h.seen(3, 0, 1);
        due(35, "just beyond the right wall", h.floors(), 0);
        h.forget();
        h.seen(0, 2, 1);
        due(35, "just beyond the upper wall", h.floors(), 0);
        h.forget();
        due(34, "forgotten", h.count(4), 0);
        due(34, "forget again", h.forget(), 0);
        due(35, "floors", h.floors(), 4);
        h.seen(0, 0, 1);
        due(35, "floors", h.floors(), 2);
        h.seen(0, 1, 1);
        due(35, "floors", h.floors(), 2);
        due(36, "x", h.look(0), 0);
        due(36, "y", h.look(1), 0);
        due(36, "left", h.look(2), 1);
        due(36, "what 3", h.look(3), NONE);
        due(36, "what -1", h.look(-1), NONE);
        h.seen(0, 0, 2);
        due(35, "two sides at one cell", h.floors(), 0);
        h.forget();
        h.seen(1, 0, 1);
        due(35, "the middle", h.floors(), 0);
        h.forget();
        h.seen(2, 1, 1);
        h.lay(1, 2, 1);
        due(35, "those that are laid count", h.floors(), 1);
        h.forget();
        h.seen(2, 1, 2);
        due(35, "those that are laid count", h.floors(), 0);
        h.forget();
        h.lay(0, 0, 0);
        h.lay(2, 2, 0);
        due(35, "none is bare", h.floors(), 1);
        due(36, "none is bare", h.look(2), NONE);
        h.seen(0, 0, 1);
        due(35, "none is bare, but it isn't so", h.floors(), 0);

        h = hall(2, 3, 2, 1, 1);
        h.seen(0, 2, 1);
        due(35, "above", h.floors(), 2);
        h.forget();
        h.seen(0, 2, 2);
        due(35, "above", h.floors(), 2);
        h.forget();
        h.force(law(h, "bars if side = 2 and y = 1"));
        due(36, "x", h.look(0), 0);
        due(36, "y", h.look(1), 2);
        due(36, "left", h.look(2), 1);
        h.force(law(h, "bars if side = 2 and y = 1 or carpet = 1 and x = 0"));
        due(36, "the first of many", h.look(1), 0);
        due(36, "left", h.look(2), 1);

        h = hall(3, 3, 1, 1, 1, 1, 1, 1, 1, 1, 1);
        h.lay(0, 0, 0);
        due(35, "floors", h.floors(), 40320);
        due(36, "x", h.look(0), 1);
        due(36, "y", h.look(1), 0);
        due(36, "left", h.look(2), 5040);
        // More keys than are kept: the same, row by row.
        h = hall(12, 3, 1, 3, 1, 3, 1, 2, 1, 1, 3);
        due(36, "many keys", h.look(2), 5760);
        due(36, "many keys", h.look(0), 0);
        // The same with a law, where a large carpet may come last; the numbers are those of a plain list of all rows.
        h = hall(12, 4, 1, 1, 1, 1, 2, 2, 2, 4, 4);
        h.force(law(h, "costs 5"));
        due(35, "many keys by a law", h.floors(), 12096);
        due(36, "many keys by a law", h.look(0), 0);
        due(36, "many keys by a law", h.look(2), 3168);
        due(25, "many keys by a law", h.cheapest(), 45);
        h.force(law(h, "bars if carpet = 0 and x = 0"));
        due(35, "many keys, barred", h.floors(), 10512);
        due(36, "many keys, barred", h.look(0), 10);
        due(36, "many keys, barred", h.look(1), 0);
        due(36, "many keys, barred", h.look(2), 2592);
    }

    private static void chances() {
        CarpetHalls h = new CarpetHalls();
        due(37, "none of none", h.few(1, 0), 1000000000000L);
        due(37, "fewer than 20 of none", h.few(20, 0), 1000000000000L);
        due(37, "k 0", h.few(0, 1), NONE);
        due(37, "k 21", h.few(21, 1), NONE);
        due(37, "n -1", h.few(1, -1), NONE);
        due(37, "n 100", h.few(1, 100), NONE);
        due(37, "none of 12", h.few(1, 12), 282429536481L);
        due(37, "cut", h.few(1, 13), 254186582832L);
        due(37, "each part is cut", h.few(2, 13), 621344980257L);
        due(37, "all", h.few(3, 2), 1000000000000L);
        h.terms(1, 5);
        due(37, "half", h.few(1, 1), 500000000000L);
        due(37, "half", h.few(2, 3), 500000000000L);
        due(37, "none of 99", h.few(1, 99), 0);
        h.terms(1, 0);
        due(37, "no moths", h.few(1, 99), 1000000000000L);
        h.terms(1, 10);
        due(37, "all are eaten", h.few(19, 19), 0);
        due(37, "all are eaten", h.few(20, 19), 1000000000000L);
        due(37, "all are eaten", h.few(20, 99), 0);
    }

    private static void comparisons() {
        CarpetHalls h = hall(2, 1, 1, 1, 1);
        law(h, "costs carpet * 10");
        law(h, "bars if x = 1");
        due(38, "none", h.compare(NONE), 2);
        due(38, "0", h.compare(0), 10);
        due(38, "no fill by it", h.compare(1), NONE);
        due(38, "no such law", h.compare(2), NONE);
        due(38, "no such law", h.compare(-2), NONE);
        h.force(1);
        due(38, "the one in force doesn't matter", h.compare(0), 10);
        due(38, "force stays", h.count(13), 1);
        h.force(NONE);
        h.lay(0, 0, 0);
        h.lay(1, 1, 0);
        due(38, "none is bare", h.compare(1), 0);
        due(38, "none is bare, no such law", h.compare(2), NONE);
        due(38, "refusals", h.count(9), 0);
    }

    private static void onPaper() {
        CarpetHalls h = new CarpetHalls();
        due(39, "no carpets", h.years(0, 1), -3);
        due(39, "no carpets, a bad number", h.years(-1, 1), -1);
        h = hall(3, 2, 2, 1);
        h.carpet(1, 2, 0);
        h.carpet(1, 3, 9);
        due(39, "seed -1", h.years(-1, 1), -1);
        due(39, "seed 1,000,001", h.years(1000001, 1), -1);
        due(39, "n 0", h.years(0, 0), -1);
        due(39, "n 61", h.years(0, 61), -1);
        due(40, "ahead of any", h.drawn(0, 0), NONE);
        // Draws of seed 0: 12345 (carpet 1), 628841 (x 2), 621889 (y 1), 953857 (1: it is laid).
        due(39, "years", h.years(0, 1), 5);
        due(40, "pile", h.drawn(1, 0), 4);
        due(40, "x", h.drawn(1, 1), 2);
        due(40, "y", h.drawn(1, 2), 1);
        due(40, "x of a rolled one", h.drawn(0, 1), NONE);
        due(40, "what 3", h.drawn(0, 3), NONE);
        due(40, "what -1", h.drawn(0, -1), NONE);
        due(40, "carpet 4", h.drawn(4, 0), NONE);
        due(39, "on paper alone", h.of(1, 3), NONE);
        due(39, "on paper alone", h.count(14), 0);
        due(39, "undo", h.count(6), 0);
        h.carpet(1, 0, 1);
        due(40, "one that came behind them", h.drawn(4, 0), NONE);
        h.years(0, 99);
        due(40, "the latest that were not refused", h.drawn(1, 1), 2);
        h.image(0);
        h.years(0, 60);
        due(39, "most", h.years(1000000, 60) >= 0 ? 1 : 0, 1);
        int pile = h.drawn(1, 0);
        h.back(0);
        due(40, "images don't keep it", h.drawn(1, 0), pile);
        h = hall(3, 2, 2, 1, 1, 1);
        h.terms(0, 999);
        due(39, "at 999 it ends", h.years(0, 5), 6);
        h.terms(0, 998);
        due(39, "one year", h.years(0, 60), 5);
        h.force(law(h, "bars if year = 998"));
        due(39, "barred", h.years(0, 60), 6);
        h.force(law(h, "wears 9"));
        due(39, "worn", h.years(0, 60), 6);
        due(40, "worn", h.drawn(1, 0), 0);
    }

    // ---- promises 41 to 44

    private static void images() {
        CarpetHalls h = hall(4, 3, 2, 1);
        due(41, "k 2", h.image(2), -1);
        due(41, "k -1", h.image(-1), -1);
        due(42, "k 2", h.back(2), -1);
        due(42, "not kept", h.back(0), -2);
        law(h, "costs 3");
        h.force(0);
        h.lay(0, 1, 1);
        h.seen(1, 2, 3);
        h.terms(1, 4);
        h.terms(2, 5);
        due(41, "image", h.image(0), 0);
        due(42, "the other was not kept", h.back(1), -2);
        h.roll(0);
        h.hall(5, 5);
        h.carpet(3, 3, 3);
        h.terms(0, 7);
        h.terms(1, 8);
        h.terms(2, 9);
        law(h, "costs 4");
        law(h, "costs 5");
        h.force(2);
        h.seen(4, 5, 6);
        h.lay(2, 2, 2);
        due(41, "image", h.image(1), 0);
        h.feed(0, 0, 0, 0, 0);
        int refused = h.count(8);
        due(42, "back", h.back(0), 0);
        int[] want = {2, 1, 0, 3, 1, 1, 0, 20, refused, 2, 0, 0, 0, 0, 0, 4, 5, 4, 3};
        for (int i = 0; i < want.length; i++) {
            due(42, "count(" + i + ")", h.count(i), want[i]);
        }
        due(42, "laid", h.at(2, 2), 0);
        h.end(0);
        due(42, "a law in the place of another", law(h, "costs 6"), 1);
        h.force(1);
        due(42, "it", h.asks(1, 0, 0, 0), 6);
        due(42, "back to the other", h.back(1), 0);
        due(42, "its laws", h.count(5), 3);
        due(42, "its force", h.asks(1, 0, 0, 0), 5);
        h.force(1);
        due(42, "its law", h.asks(1, 0, 0, 0), 4);
        due(42, "laid", h.of(2, 3), 2);
        due(42, "wide", h.count(17), 5);
        due(42, "images stay", h.back(0), 0);
        due(42, "seen", h.count(4), 1);
        due(42, "carpets", h.of(2, 0), NONE);

        // What was seen and what a law says are kept as they are, not their number alone.
        h = hall(2, 3, 2, 1, 1);
        h.seen(0, 2, 1);
        h.force(law(h, "bars if x = 1;costs 9;wears 4 if y = 1"));
        h.image(1);
        h.forget();
        h.seen(1, 0, 2);
        h.seen(1, 1, 1);
        h.image(0);
        h.back(1);
        h.force(NONE);
        due(42, "floors", h.floors(), 2);
        h.force(0);
        due(42, "barred", h.asks(0, 1, 1, 1), 1);
        due(42, "costs", h.asks(0, 1, 1, 0), 9);
        h.back(0);
        h.force(NONE);
        due(42, "floors", h.floors(), 0);
        h.hall(2, 2);
        CarpetHalls late = hall(2, 2, 1);
        late.image(0);
        late.force(law(late, "costs 7;bars if y = 0"));
        late.image(1);
        late.back(0);
        law(late, "bars if y = 1;wears 3;costs 8");
        late.back(1);
        due(42, "a law that another one stood for", late.asks(0, 0, 0, 0), 7);
        due(42, "a law that another one stood for", late.asks(0, 0, 0, 1), 1);
        due(42, "a law that another one stood for", late.asks(0, 0, 1, 1), 0);
    }

    private static void countsAndStatus() {
        CarpetHalls h = hall(2, 2, 1, 1);
        h.carpet(1, 0, 0);
        h.lay(0, 0, 0);
        due(43, "carpets", h.count(0), 3);
        due(43, "laid", h.count(1), 1);
        due(43, "rags", h.count(2), 1);
        due(43, "paid", h.count(3), 1);
        due(43, "19", h.count(19), NONE);
        due(43, "-1", h.count(-1), NONE);
        h.lay(0, 12, 0);
        due(44, "-1", h.status(), -1);
        h.of(9, 9);
        h.feed(0, 0, 0, 0, 0);
        h.end(-1);
        h.forget();
        h.few(0, 0);
        h.count(99);
        h.compare(9);
        due(44, "others don't matter", h.status(), -1);
        h.lay(9, 0, 0);
        due(44, "-2", h.status(), -2);
        h.roll(1);
        due(44, "-3", h.status(), -3);
        h.mirror();
        due(44, "0", h.status(), 0);
        for (int i = 0; i < 7; i++) {
            h.seen(0, 0, 1);
        }
        due(44, "-5", h.status(), -5);
        h.orders();
        due(44, "-6", h.status(), -6);
        h.pass();
        due(44, "0", h.status(), 0);
        int[] want = {1, 1, 1, 1, 1};
        for (int i = 0; i < 5; i++) {
            due(43, "count(" + (8 + i) + ")", h.count(8 + i), want[i]);
        }
    }

    public static void main(String[] args) {
        newObject();
        carpets();
        hallAndCells();
        theTerms();
        theTape();
        rows();
        laws();
        sums();
        tests();
        faults();
        theOrders();
        forces();
        deeds();
        paidHasAnEnd();
        yearsPass();
        undoes();
        fills();
        hallsOfAll();
        floorsAsTheyLie();
        whatIsFree();
        whatWasSeen();
        chances();
        comparisons();
        onPaper();
        images();
        countsAndStatus();
        System.out.println(wrong == 0 ? "all " + asked + " answers are as due" : wrong + " answers are not as due");
        if (wrong != 0) System.exit(1);
    }
}
