import java.nio.ByteBuffer;
import java.nio.charset.StandardCharsets;
import java.nio.file.Files;
import java.nio.file.Path;
import java.util.Arrays;
import java.util.TreeSet;

/**
 * Each sentence of the document that names a boundary case, in the document's order, with a test of its own: a method
 * that begins with the sentence's words. Words that don't stand in the document are a failure, too.
 */
public final class BoundariesTest {

    private static final int NONE = CarpetHalls.NONE;
    private static final int FAR = Integer.MAX_VALUE;
    private static final int LOW = Integer.MIN_VALUE;
    private static final long ALL_PARTS = 1000000000000L;

    private static String document = "";
    private static String words = "";
    private static final TreeSet<Integer> promises = new TreeSet<>();
    private static int wrong = 0;
    private static int asked = 0;
    private static int sentences = 0;

    // ---- helpers

    private static void sentence(String itsWords) {
        words = itsWords;
        sentences++;
        if (!document.contains(itsWords)) {
            wrong++;
            System.out.println("the document does not say: " + itsWords);
        }
    }

    /** A promise's words, as they stand behind its call. */
    private static void promise(int number, String itsWords) {
        int from = document.indexOf("## Promise " + number + ":");
        int to = document.indexOf("## ", from + 3);
        sentence(itsWords);
        promises.add(number);
        if (from < 0 || to < 0 || !document.substring(from, to).contains(itsWords)) {
            wrong++;
            System.out.println("promise " + number + " does not say: " + itsWords);
        }
    }

    private static void due(String what, long got, long want) {
        asked++;
        if (got != want) {
            wrong++;
            System.out.println("\"" + words + "\": " + what + " answered " + got + ", due is " + want);
        }
    }

    private static void write(CarpetHalls h, String text) {
        h.end(0);
        byte[] bytes = Arrays.copyOf(text.getBytes(StandardCharsets.ISO_8859_1), (text.length() + 19) / 20 * 20);
        ByteBuffer b = ByteBuffer.wrap(bytes);
        while (b.remaining() > 0) {
            h.feed(b.getInt(), b.getInt(), b.getInt(), b.getInt(), b.getInt());
        }
        h.end(text.length());
    }

    private static int law(CarpetHalls h, String text) {
        write(h, text);
        return h.law();
    }

    /** A law that is in force from here. */
    private static void rule(CarpetHalls h, String text) {
        int number = law(h, text);
        due("the law " + text, number >= 0 ? 1 : 0, 1);
        h.force(number);
    }

    private static int orders(CarpetHalls h, String text) {
        write(h, text);
        return h.orders();
    }

    private static CarpetHalls hall(int wide, int high, int... sides) {
        CarpetHalls h = new CarpetHalls();
        h.hall(wide, high);
        for (int side : sides) {
            h.carpet(side, 0, 5);
        }
        return h;
    }

    /** Carpet 1 of two has side 3, kind 2, pile 7; it is year 6, the mood is 8. */
    private static CarpetHalls withLaw(String text) {
        CarpetHalls h = new CarpetHalls();
        h.carpet(1, 0, 0);
        h.carpet(3, 2, 7);
        h.terms(0, 6);
        h.terms(2, 8);
        rule(h, text);
        return h;
    }

    /** What that carpet costs at (4, 5) by a sum; 3, its side, if the sum is BROKEN. */
    private static int cost(String sum) {
        return withLaw("costs " + sum).asks(1, 4, 5, 0);
    }

    /** Whether it is barred there, if that test is so. */
    private static int so(String test) {
        return withLaw("bars if " + test).asks(1, 4, 5, 1);
    }

    private static int lawFault(String text) {
        CarpetHalls h = new CarpetHalls();
        law(h, text);
        return h.fault();
    }

    private static int ordersFault(String text) {
        CarpetHalls h = new CarpetHalls();
        orders(h, text);
        return h.fault();
    }

    private static String times(String what, int n, String between) {
        StringBuilder s = new StringBuilder();
        for (int i = 0; i < n; i++) {
            s.append(i > 0 ? between : "").append(what);
        }
        return s.toString();
    }

    /** All of the hall that a call could change, told as a text. */
    private static String state(CarpetHalls h) {
        StringBuilder s = new StringBuilder();
        for (int c = 0; c < 9; c++) {
            for (int what = 0; what < 6; what++) {
                s.append(h.of(c, what)).append(' ');
            }
        }
        for (int what = 0; what < 7; what++) {
            s.append(h.count(what)).append(' ');
        }
        for (int what = 13; what < 19; what++) {
            s.append(h.count(what)).append(' ');
        }
        return s.append(h.floors()).append(' ').append(h.cheapest()).toString();
    }

    private static void same(String what, String got, String want) {
        asked++;
        if (!got.equals(want)) {
            wrong++;
            System.out.println("\"" + words + "\": " + what + " left " + got + ", due is " + want);
        }
    }

    // ---------------------------------------------------------------- What it is

    private static void callsOfAnObject() {
        sentence("An object is used for at most 512 calls after it has been made; what later calls answer is free.");
        CarpetHalls h = new CarpetHalls();
        for (int i = 0; i < 510; i++) {
            h.mirror();
        }
        due("the 511th call", h.undo(), 2);
        due("the 512th call", h.count(6), 15);
        h.mirror();
    }

    // ---------------------------------------------------------------- Terms I

    private static void hallSizes() {
        sentence("A HALL: WIDE 1 .. 12, HIGH 1 .. 12 (both 8 at first)");
        CarpetHalls h = new CarpetHalls();
        due("wide at first", h.count(17), 8);
        due("high at first", h.count(18), 8);
        due("cells at first", h.bare(0), 64);
        due("1 by 12", h.hall(1, 12), 12);
        due("wide", h.count(17), 1);
        due("high", h.count(18), 12);
        due("12 by 1", h.hall(12, 1), 12);
        due("12 by 12", h.hall(12, 12), 144);
        due("1 by 1", h.hall(1, 1), 1);
        int[][] bad = {{0, 8}, {13, 8}, {8, 0}, {8, 13}, {-1, 8}, {8, -1}, {LOW, 8}, {8, LOW}, {FAR, 8}, {8, FAR}};
        for (int[] b : bad) {
            due("hall(" + b[0] + ", " + b[1] + ")", h.hall(b[0], b[1]), -1);
        }
        due("wide stays", h.count(17), 1);
        due("high stays", h.count(18), 1);
    }

    private static void cellsOfTheHall() {
        sentence("CELLS by x (0 .. WIDE less 1) and y (0 .. HIGH less 1, 0 below)");
        CarpetHalls h = hall(3, 2, 1, 1, 1, 1);
        due("x is WIDE", h.lay(0, 3, 0), -3);
        due("y is HIGH", h.lay(0, 0, 2), -3);
        due("the farthest", h.lay(0, 2, 1), 1);
        due("the nearest", h.lay(1, 0, 0), 1);
        due("it covers the farthest", h.at(2, 1), 0);
        due("it covers the nearest", h.at(0, 0), 1);
        h.lay(2, 1, 0);
        h.lay(3, 2, 0);
        due("first bare is above: x", h.bare(1), 0);
        due("first bare is above: y", h.bare(2), 1);
        due("a line below all", h.currents(0, 0), 3);
    }

    private static void nineCarpets() {
        sentence("CARPETS 0 .. 8 (9 at most)");
        CarpetHalls h = new CarpetHalls();
        due("carpet 0 is not there at first", h.of(0, 0), NONE);
        for (int c = 0; c < 9; c++) {
            due("carpet " + c, h.carpet(c + 1, 0, 1), c);
        }
        due("a tenth", h.carpet(1, 0, 1), -5);
        due("carpet 8", h.of(8, 0), 9);
        due("carpet 9", h.of(9, 0), NONE);
        due("how many", h.count(0), 9);
    }

    private static void carpetsNumbers() {
        sentence("SIDE 1 .. 12, a KIND 0 .. 3, PILE 0 .. 9");
        CarpetHalls h = new CarpetHalls();
        due("the least", h.carpet(1, 0, 0), 0);
        due("the most", h.carpet(12, 3, 9), 1);
        int[][] bad = {{0, 0, 1}, {13, 0, 1}, {-1, 0, 1}, {LOW, 0, 1}, {FAR, 0, 1}, {1, -1, 1}, {1, 4, 1}, {1, LOW, 1},
            {1, FAR, 1}, {1, 0, -1}, {1, 0, 10}, {1, 0, LOW}, {1, 0, FAR}};
        for (int[] b : bad) {
            due("carpet" + Arrays.toString(b), h.carpet(b[0], b[1], b[2]), -1);
        }
        due("none of these came", h.count(0), 2);
        due("side", h.of(1, 0), 12);
        due("kind", h.of(1, 1), 3);
        due("pile", h.of(1, 2), 9);
    }

    private static void rolledAtFirst() {
        sentence("LAID with the lowest left CELL at x, y, or rolled (at first)");
        CarpetHalls h = hall(3, 3, 2);
        due("x at first", h.of(0, 3), NONE);
        due("y at first", h.of(0, 4), NONE);
        due("none is laid", h.count(1), 0);
        h.lay(0, 1, 1);
        due("lowest left", h.at(1, 1), 0);
        due("highest right", h.at(2, 2), 0);
        due("left of it", h.at(0, 1), NONE);
        due("below it", h.at(1, 0), NONE);
    }

    private static void ragsAtPileZero() {
        sentence("RAGS, if PILE is 0");
        CarpetHalls h = hall(2, 1);
        h.carpet(1, 0, 0);
        h.carpet(1, 0, 1);
        due("rags", h.count(2), 1);
        due("rags can't be laid", h.lay(0, 0, 0), -3);
        due("pile 1 is no rags", h.lay(1, 0, 0), 1);
        due("pile 1, and a year", h.pass(), 1);
        due("rags then", h.count(2), 2);
    }

    private static void noTwoOnOneCell() {
        sentence("No two that are LAID cover one CELL.");
        CarpetHalls h = hall(6, 6, 2, 2, 2, 2, 2, 1);
        h.lay(0, 2, 2);
        due("one cell at the lower left", h.lay(1, 1, 1), -3);
        due("one cell at the upper right", h.lay(1, 3, 3), -3);
        due("one cell at the upper left", h.lay(1, 1, 3), -3);
        due("one cell at the lower right", h.lay(1, 3, 1), -3);
        due("within it", h.lay(5, 3, 2), -3);
        due("just left of it", h.lay(1, 0, 2), 2);
        due("just right of it", h.lay(2, 4, 2), 2);
        due("just below it", h.lay(3, 2, 0), 2);
        due("just above it", h.lay(4, 2, 4), 2);
        due("bare", h.bare(0), 16);
    }

    private static void paidHasEnds() {
        sentence("PAID 0 .. 9999 (0 at first)");
        CarpetHalls h = hall(1, 1, 1);
        due("at first", h.count(3), 0);
        rule(h, "costs 0 - 5 if year = 0;costs 99 if year = 1");
        due("no less than 0", h.lay(0, 0, 0), 0);
        due("still 0", h.count(3), 0);
        h.roll(0);
        h.terms(0, 1);
        for (int i = 0; i < 101; i++) {
            h.lay(0, 0, 0);
            h.roll(0);
        }
        due("101 times 99", h.count(3), 9999);
        due("one more", h.lay(0, 0, 0), 99);
        due("no more than 9,999", h.count(3), 9999);
    }

    private static void seenNumbers() {
        sentence("SEEN, 6 at most: a CELL (x, y 0 .. 11) is under a carpet of a SIDE 1 .. 12.");
        CarpetHalls h = new CarpetHalls();
        due("the least", h.seen(0, 0, 1), 1);
        due("the most", h.seen(11, 11, 12), 2);
        int[][] bad = {{-1, 0, 1}, {12, 0, 1}, {0, -1, 1}, {0, 12, 1}, {0, 0, 0}, {0, 0, 13}, {LOW, 0, 1}, {FAR, 0, 1},
            {0, LOW, 1}, {0, FAR, 1}, {0, 0, LOW}, {0, 0, FAR}};
        for (int[] b : bad) {
            due("seen" + Arrays.toString(b), h.seen(b[0], b[1], b[2]), -1);
        }
        for (int i = 3; i <= 6; i++) {
            due("once more", h.seen(0, 0, 1), i);
        }
        due("a seventh", h.seen(0, 0, 1), -5);
        due("six", h.count(4), 6);
    }

    private static void termsNumbers() {
        sentence("TERMS: 0 YEAR 0 .. 999 (0 at first), 1 MOTHS 0 .. 10 (1), 2 MOOD 0 .. 9 (0).");
        CarpetHalls h = new CarpetHalls();
        int[] first = {0, 1, 0};
        int[] most = {999, 10, 9};
        for (int what = 0; what < 3; what++) {
            due("at first", h.count(14 + what), first[what]);
            due("the most", h.terms(what, most[what]), first[what]);
            due("the least", h.terms(what, 0), most[what]);
            due("too many", h.terms(what, most[what] + 1), -1);
            due("too few", h.terms(what, -1), -1);
            due("far too many", h.terms(what, FAR), -1);
            due("far too few", h.terms(what, LOW), -1);
            due("it stays", h.count(14 + what), 0);
        }
    }

    private static void refusalsHaveAnOrder() {
        sentence("The first of these in that order.");
        CarpetHalls h = hall(2, 2, 1, 1, 1, 1, 1, 1, 1, 1, 1);
        due("carpet: -1 ahead of -5", h.carpet(1, 0, 10), -1);
        due("lay: -1 ahead of -2", h.lay(9, 12, 0), -1);
        due("lay: -2 ahead of -3", h.lay(9, 11, 11), -2);
        h.lay(0, 0, 0);
        due("lay: -1 ahead of -3", h.lay(0, 0, 12), -1);
        due("hall: -1 ahead of -3", h.hall(13, 1), -1);
        due("roll: -2 ahead of -3", h.roll(9), -2);
        for (int i = 0; i < 6; i++) {
            h.seen(0, 0, 1);
            law(h, "bars if x = 11");
        }
        due("seen: -1 ahead of -5", h.seen(0, 0, 0), -1);
        due("law: -5 ahead of -6", law(h, "?"), -5);
        due("back: -1 ahead of -2", h.back(2), -1);
        due("years: -1 ahead of -3", new CarpetHalls().years(0, 0), -1);
    }

    private static void refusedCallsChangeNothing() {
        sentence("REFUSED by: -1 a number that can't be; -2 there is no such CARPET, LAW, IMAGE; -3 it can't be by what stands; -5 no room; -6 a TEXT, a ROW that can't be.");
        CarpetHalls h = hall(3, 3, 1, 2, 1, 1, 1, 1, 1, 1);
        h.carpet(1, 0, 0);
        for (int i = 0; i < 6; i++) {
            law(h, "costs 9 if x = " + i);
            h.seen(0, 0, 2);
        }
        h.force(1);
        h.terms(0, 999);
        h.lay(1, 0, 0);
        h.mirror();
        String was = state(h);
        due("-1 of carpet", h.carpet(1, 4, 1), -1);
        due("-5 of carpet", h.carpet(1, 0, 1), -5);
        due("-1 of hall", h.hall(13, 1), -1);
        due("-3 of hall", h.hall(3, 3), -3);
        due("-1 of terms", h.terms(0, 1000), -1);
        due("-6 of row", h.row(), -6);
        due("-5 of law", h.law(), -5);
        due("-3 of orders", orders(h, "roll 1;roll 1"), -3);
        due("-6 of orders", orders(h, "roll 1;roll"), -6);
        due("-2 of force", h.force(6), -2);
        due("-1 of lay", h.lay(0, 0, 12), -1);
        due("-2 of lay", h.lay(9, 0, 0), -2);
        due("-3 of lay", h.lay(0, 1, 1), -3);
        due("-2 of roll", h.roll(9), -2);
        due("-3 of roll", h.roll(0), -3);
        due("-3 of pass", h.pass(), -3);
        due("-1 of seen", h.seen(0, 0, 13), -1);
        due("-5 of seen", h.seen(0, 0, 1), -5);
        due("-1 of years", h.years(0, 61), -1);
        due("-1 of image", h.image(2), -1);
        due("-1 of back", h.back(2), -1);
        due("-2 of back", h.back(1), -2);
        same("all these refusals", state(h), was);
        int[] want = {8, 4, 5, 3, 2};
        for (int i = 0; i < want.length; i++) {
            due("count(" + (8 + i) + ")", h.count(8 + i), want[i]);
        }
        due("the latest deed", h.undo(), 2);
        due("-6 of law", new CarpetHalls().law(), -6);
        due("-3 of undo", new CarpetHalls().undo(), -3);
        due("-3 of years", new CarpetHalls().years(0, 1), -3);
    }

    // ---------------------------------------------------------------- Terms II

    private static void tapeOf400() {
        sentence("TEXTS are on a TAPE of at most 400 bytes.");
        due("a law of 400 bytes", lawFault("bars" + times(" ", 396, "")), NONE);
        due("its last byte counts", lawFault("bars" + times(" ", 395, "") + "?"), 399);
        due("a fault at the end of 400", lawFault("costs" + times(" ", 395, "")), 400);
        due("400 letters", lawFault(times("x", 400, "")), 0);
        due("400 digits", lawFault("costs " + times("0", 394, "")), NONE);
        due("400 single bytes", lawFault(times(";", 400, "")), 0);
        due("400 single bytes behind a word", lawFault("bars" + times("!", 396, "")), 4);
        due("orders of 400 bytes", ordersFault(times(" ", 394, "") + "mirror"), NONE);
    }

    private static void tokens() {
        sentence("TOKENS: longest rows of letters a .. z, of digits, single other bytes, any blanks (32) between.");
        due("a longer row of letters", lawFault("barsbars"), 0);
        due("a blank within a word", lawFault("ba rs"), 0);
        due("letters, then digits", lawFault("costs1"), NONE);
        due("digits, then letters", lawFault("bars if 1=1and 2=2"), NONE);
        due("no blanks at all", lawFault("bars if not(x=1)or[y]<2"), NONE);
        due("a blank within a number", lawFault("costs 1 0"), 8);
        due("many blanks", lawFault("   costs    1   "), NONE);
        due("a tab is no blank", lawFault("costs\t1"), 5);
        due("a line's end is no blank", lawFault("costs 1\n"), 7);
        due("a capital is no letter", lawFault("bars if X = 1"), 8);
        due("ahead of a", lawFault("`bars"), 0);
        due("behind z", lawFault("bars{"), 4);
        due("ahead of 0", lawFault("costs 1/"), 8);
        due("behind 9", lawFault("costs 1:"), 7);
        due("a is a letter", lawFault("barsa"), 0);
        due("z is a letter", lawFault("barsz"), 0);
        due("0 and 9 are digits", lawFault("costs 90"), NONE);
        due("byte 0", lawFault("bars\0"), 4);
        due("byte 255", lawFault("bars\u00ff"), 4);
        due("byte 160", lawFault("bars\u00a0"), 4);
        due("two single bytes are two tokens", lawFault("bars if 1 == 1"), 11);
    }

    private static void twelveClauses() {
        sentence("CLAUSE {\";\" CLAUSE}, 12 at most (FAULT at the 13th's first TOKEN).");
        due("12", lawFault(times("bars", 12, ";")), NONE);
        due("13", lawFault(times("bars", 13, ";")), 60);
        due("13, blanks ahead of it", lawFault(times("bars", 12, ";") + ";   costs 1"), 63);
        due("a 13th that is none", lawFault(times("bars", 12, ";") + ";;"), 60);
        due("a 13th that is the end", lawFault(times("bars", 12, ";") + ";"), 60);
        due("a fault in the 12th", lawFault(times("bars", 11, ";") + ";bar;bars"), 55);
        due("a fault behind the 12th", lawFault(times("bars", 12, ";") + "x"), 55);
        due("12 orders", ordersFault(times("pass", 12, ";")), NONE);
        due("13 orders", ordersFault(times("pass", 13, ";")), 60);
        CarpetHalls h = new CarpetHalls();
        due("12 are run", orders(h, times("pass", 12, ";")), 12);
        due("the 12th that can't be", orders(h, times("pass", 11, ";") + ";roll 0"), -3);
        due("is number 11", h.stopped(), 11);
    }

    private static void rowsOfTests() {
        sentence("TEST: BOTH {\"or\" BOTH}. BOTH: PLAIN {\"and\" PLAIN}.");
        due("and first", so("1 = 1 or 1 = 2 and 1 = 2"), 1);
        due("and first", so("1 = 2 and 1 = 2 or 1 = 1"), 1);
        due("and first", so("1 = 2 or 1 = 1 and 1 = 2 or 1 = 2"), 0);
        due("or at the end", lawFault("bars if 1 = 1 or"), 16);
        due("and at the end", lawFault("bars if 1 = 1 and"), 17);
        due("or and", lawFault("bars if 1 = 1 or and 1 = 1"), 17);
    }

    private static void plainTests() {
        sentence("PLAIN: \"not\" PLAIN | \"(\" TEST \")\" | SUM (\"<\" | \">\" | \"=\") SUM.");
        due("not is of one PLAIN", so("not 1 = 2 and 1 = 2"), 0);
        due("not is of brackets", so("not (1 = 2 and 1 = 2)"), 1);
        due("a hundred nots", lawFault("bars if " + times("not ", 96, "") + "1=1"), NONE);
        due("an even row of nots", so(times("not ", 90, "") + "1 = 1"), 1);
        due("an odd row of nots", so(times("not ", 91, "") + "1 = 1"), 0);
        due("not, then the end", lawFault("bars if not"), 11);
        due("less is not the same", so("3 < 3"), 0);
        due("less", so("2 < 3"), 1);
        due("more is not the same", so("3 > 3"), 0);
        due("more", so("3 > 2"), 1);
        due("the same", so("3 = 3"), 1);
        due("one off", so("3 = 4"), 0);
        due("a sum alone", lawFault("bars if (1)"), 10);
        due("nothing in brackets", lawFault("bars if ()"), 9);
        due("three sums", lawFault("bars if 1 < 2 < 3"), 14);
        due("two sums, nothing between", lawFault("bars if 1 2"), 10);
        due("not less", so("not 1 < 2"), 0);
        due("not more", so("not 2 > 1"), 0);
        due("not less, as it is", so("not 2 < 1"), 1);
    }

    private static void sumsAndTerms() {
        sentence("SUM: TERM {(\"+\" | \"-\") TERM}. TERM: PART {(\"*\" | \"/\" | \"%\") PART}.");
        due("terms first", cost("2 + 3 * 4"), 14);
        due("terms first", cost("2 * 3 + 4 * 5"), 26);
        due("sums from the left", cost("50 - 20 - 10 + 5"), 25);
        due("terms from the left", cost("90 / 4 / 5 * 3 % 7"), 5);
        due("no sign ahead", lawFault("costs + 1"), 6);
        due("two signs", lawFault("costs 1 - - 1"), 10);
        due("a sign at the end", lawFault("costs 1 *"), 9);
    }

    private static void numbersTo1000() {
        sentence("PART: NUMBER (to 1,000) | \"[\" SUM \"]\" | a word, as told.");
        due("0", so("0 = 1 - 1"), 1);
        due("1000", so("1000 = 10 * 100"), 1);
        due("1001", lawFault("costs 1001"), 6);
        due("zeros ahead", so("0000000001000 = 1000"), 1);
        due("zeros ahead of 1001", lawFault("costs 0000001001"), 6);
        due("2 to the 32nd, and 1", lawFault("costs 4294967297"), 6);
        due("2 to the 64th, and 1", lawFault("costs 18446744073709551617"), 6);
        due("10,000", lawFault("costs 10000"), 6);
        due("empty brackets", lawFault("costs []"), 7);
        due("brackets", cost("[4 + 5] * [1 + 1]"), 18);
    }

    private static void fiftyParts() {
        sentence("50 PARTS that are NUMBERS and words (FAULT at the 51st)");
        due("50 numbers", lawFault("costs " + times("1", 50, "+")), NONE);
        due("51 numbers", lawFault("costs " + times("1", 51, "+")), 106);
        due("50 words", lawFault("costs " + times("x", 50, "+")), NONE);
        due("51 words", lawFault("costs " + times("x", 51, "+")), 106);
        due("brackets are no NUMBERS, no words", lawFault("costs " + times("[x]", 50, "+")), NONE);
        due("the 51st in brackets", lawFault("costs " + times("[x]", 51, "+")), 6 + 50 * 4 + 1);
        due("of all clauses together", lawFault("costs " + times("1", 49, "+") + ";bars if 1 = 1"), 103 + 1 + 12);
        due("50 in two clauses", lawFault("costs " + times("1", 48, "+") + ";bars if 1 = 1"), NONE);
        due("50 of an order", ordersFault("roll " + times("1", 50, "+")), NONE);
        due("51 of an order", ordersFault("roll " + times("1", 51, "+")), 105);
        due("a 51st that is too large", lawFault("costs " + times("1", 50, "+") + "+1001"), 106);
        CarpetHalls h = new CarpetHalls();
        law(h, "costs " + times("1", 50, "+"));
        due("a new text counts anew", law(h, "costs " + times("1", 50, "+")), 1);
    }

    private static void eightBrackets() {
        sentence("8 brackets of both kinds within one another (FAULT at the 9th) at most.");
        due("8 square", lawFault("costs " + times("[", 8, "") + "1" + times("]", 8, "")), NONE);
        due("9 square", lawFault("costs " + times("[", 9, "") + "1" + times("]", 9, "")), 14);
        due("8 round", lawFault("bars if " + times("(", 8, "") + "1=1" + times(")", 8, "")), NONE);
        due("9 round", lawFault("bars if " + times("(", 9, "") + "1=1" + times(")", 9, "")), 16);
        due("4 and 4", lawFault("bars if ((((1=[[[[1]]]]))))"), NONE);
        due("4 and 5", lawFault("bars if ((((1=[[[[[1]]]]]))))"), 18);
        due("8 and 1", lawFault("bars if " + times("(", 8, "") + "[1]=1" + times(")", 8, "")), 16);
        due("12 behind one another", lawFault("costs " + times("[[1]]", 12, "+")), NONE);
        due("8, closed, 8 again", lawFault("costs " + times("[", 8, "") + "1" + times("]", 8, "") + "+" + times("[", 8, "")
                + "1" + times("]", 8, "")), NONE);
        due("what they reckon", cost(times("[1+", 8, "") + "1" + times("]", 8, "")), 9);
        due("what they tell", so(times("not(", 7, "") + "1=1" + times(")", 7, "")), 0);
    }

    private static void placesOfFaults() {
        sentence("FAULT: the first TOKEN that can't go on there (the end's: the TEXT's length).");
        due("the very first", lawFault("x"), 0);
        due("blanks ahead of it", lawFault("  x"), 2);
        due("the end", lawFault("costs"), 5);
        due("the end with blanks", lawFault("costs  "), 7);
        due("the first of two", lawFault("bars ? !"), 5);
        due("a clause's end", lawFault("bars;"), 5);
        due("no clause ahead", lawFault(";bars"), 0);
        due("the end within brackets", lawFault("costs [1"), 8);
        due("the wrong bracket", lawFault("bars if (1 = 1]"), 14);
        due("one bracket too many", lawFault("costs 1]"), 7);
        due("a word of the other language", lawFault("costs paid"), 6);
        due("an order as a law", lawFault("mirror"), 0);
        due("a law as an order", ordersFault("bars"), 0);
    }

    private static void beyondABillion() {
        sentence("Beyond 1,000,000,000 either way");
        String most = "1000*1000*1000";
        due("just that many", so(most + " > 0"), 1);
        due("one more", so(most + "+1 > 0"), 0);
        due("one more, not", so("not " + most + "+1 > 0"), 0);
        due("just as many below", so("0-" + most + " < 0"), 1);
        due("one below", so("0-" + most + "-1 < 0"), 0);
        due("on the way alone", so(most + "+1-1 > 0"), 0);
        due("the same, the other way round", so(most + "-1+1 > 0"), 1);
        due("product", so("1000*1000*1000*2 > 0"), 0);
        due("product below", so("0-[" + most + "]*2 < 0"), 0);
        // 2 to the 32nd is 0 where only 32 bits are kept, 2 to the 64th where 64 are.
        due("2 to the 32nd", cost("256*256*256*256"), 3);
        due("2 to the 64th", cost("256*256*256*256*256*256*256*256"), 3);
        due("a billion squared", cost("[" + most + "]*[" + most + "]/[" + most + "]"), 3);
        due("a comparison of both ends", so("0-" + most + " < " + most), 1);
    }

    private static void dividedByZero() {
        sentence("or divided by 0 (/ cut towards 0, % what is left then), a SUM, a TEST is BROKEN");
        due("by 0", cost("1/0"), 3);
        due("% by 0", cost("1%0"), 3);
        due("0 by 0", cost("0/0"), 3);
        due("by what is 0", cost("1/[x-4]"), 3);
        due("a test by 0", so("1/0 = 1"), 0);
        due("not of it", so("not 1/0 = 1"), 0);
        due("behind the comparison", so("1 = 1%0"), 0);
        due("0 by one", cost("0/5"), 0);
        due("cut", cost("11/2"), 5);
        due("cut above", cost("9/2"), 4);
        due("cut towards 0", cost("50+[0-9]/2"), 46);
        due("cut towards 0", cost("50+9/[0-2]"), 46);
        due("cut towards 0", cost("50+[0-9]/[0-2]"), 54);
        due("left", cost("9%2"), 1);
        due("left", cost("50+[0-9]%2"), 49);
        due("left", cost("50+9%[0-2]"), 51);
        due("left", cost("50+[0-9]%[0-2]"), 49);
        due("in brackets", cost("[1/0]*0"), 3);
    }

    private static void askedOnlyIfItMatters() {
        sentence("(\"or\", \"and\" ask what stands behind only if it can still matter)");
        due("or, it is so", so("1=1 or 1/0=1"), 1);
        due("or, it is not so", so("1=2 or 1/0=1"), 0);
        due("or, what stands ahead is asked", so("1/0=1 or 1=1"), 0);
        due("and, it is not so", so("not (1=2 and 1/0=1)"), 1);
        due("and, it is so", so("not (1=1 and 1/0=1)"), 0);
        due("and, what stands ahead is asked", so("not (1/0=1 and 1=2)"), 0);
        due("or behind or", so("1=2 or 1=1 or 1/0=1"), 1);
        due("or behind or, the first is so", so("1=1 or 1/0=1 or 1/0=1"), 1);
        due("not of or behind or", so("not (1=1 or 1/0=1 or 1/0=1 or 1/0=1)"), 0);
        due("and behind and", so("not (1=1 and 1=2 and 1/0=1)"), 1);
        due("and behind or", so("1=1 or 1/0=1 and 1/0=1"), 1);
        due("or behind and", so("1=2 and 1/0=1 or 1=1"), 1);
        due("or behind and that is so", so("1=1 and 1=1 or 1/0=1"), 1);
        due("in brackets", so("1=1 or (1=1 and 1/0=1)"), 1);
    }

    private static void sixLaws() {
        sentence("LAWS, 6 at most; one is in FORCE (NONE at first: no CLAUSE)");
        CarpetHalls h = hall(2, 2, 2);
        due("at first", h.count(13), NONE);
        due("costs at first", h.asks(0, 0, 0, 0), 2);
        due("barred at first", h.asks(0, 0, 0, 1), 0);
        for (int i = 0; i < 6; i++) {
            due("law " + i, law(h, "costs " + (50 + i) + ";bars"), i);
        }
        due("a seventh", law(h, "bars"), -5);
        due("none in force still", h.asks(0, 0, 0, 0), 2);
        h.force(5);
        due("the sixth", h.asks(0, 0, 0, 0), 55);
        h.force(0);
        due("the first", h.asks(0, 0, 0, 0), 50);
    }

    private static void lawClauses() {
        sentence("CLAUSE: ((\"costs\" | \"wears\") SUM | \"bars\") [\"if\" TEST].");
        due("costs without a sum", lawFault("costs if 1 = 1"), 6);
        due("wears without a sum", lawFault("wears"), 5);
        due("bars with a sum", lawFault("bars 1"), 5);
        due("if without a test", lawFault("bars if"), 7);
        due("if alone", lawFault("if 1 = 1"), 0);
        due("if twice", lawFault("bars if 1 = 1 if 1 = 1"), 14);
        due("all three", lawFault("costs 1 if 1 = 1;wears 1 if 1 = 1;bars if 1 = 1"), NONE);
    }

    private static void lawWords() {
        sentence("Words: \"carpet\" | \"side\" | \"kind\" | \"pile\" | \"x\" | \"y\" | \"year\" | \"mood\".");
        due("carpet", cost("carpet + 10"), 11);
        due("side", cost("side + 10"), 13);
        due("kind", cost("kind + 10"), 12);
        due("pile", cost("pile + 10"), 17);
        due("x", cost("x + 10"), 14);
        due("y", cost("y + 10"), 15);
        due("year", cost("year + 10"), 16);
        due("mood", cost("mood + 10"), 18);
        due("moths is none", lawFault("costs moths"), 6);
        due("pile has no number", lawFault("costs pile 1"), 11);
        due("at a cell that is not in the hall", withLaw("costs x * 8 + y").asks(1, 11, 11, 0), 99);
    }

    private static void whenAClauseHolds() {
        sentence("A CLAUSE HOLDS, if its \"if\" (if it has one) is so, and neither that nor its SUM is BROKEN.");
        due("no if", cost("40"), 40);
        due("so", cost("40 if 1 = 1"), 40);
        due("not so", cost("40 if 1 = 2"), 3);
        due("its if is broken", cost("40 if 1/0 = 1"), 3);
        due("its sum is broken", cost("40/0 if 1 = 1"), 3);
        due("bars without if", withLaw("bars").asks(1, 0, 0, 1), 1);
        due("bars, broken", withLaw("bars if 1/0 = 0").asks(1, 0, 0, 1), 0);
        due("bars, broken, not", withLaw("bars if not 1/0 = 0").asks(1, 0, 0, 1), 0);
    }

    private static void costsHaveEnds() {
        sentence("A CARPET COSTS 0 .. 99 there as the last \"costs\" that HOLDS tells (else the nearest), without as many as its SIDE");
        due("99", cost("99"), 99);
        due("100", cost("100"), 99);
        due("a billion", cost("1000*1000*1000"), 99);
        due("0", cost("0"), 0);
        due("below 0", cost("0-1"), 0);
        due("a billion below", cost("0-1000*1000*1000"), 0);
        due("the last", cost("40;costs 50"), 50);
        due("the last that holds", cost("40;costs 50 if 1 = 2"), 40);
        due("the last that is not broken", cost("40;costs 50/0"), 40);
        due("the nearest is of the last", cost("40;costs 1000"), 99);
        due("without", withLaw("wears 5").asks(1, 0, 0, 0), 3);
        due("without, side 12", hall(12, 12, 12).lay(0, 0, 0), 12);
    }

    private static int wear(String law) {
        CarpetHalls h = withLaw(law);
        h.lay(1, 4, 5);
        return h.of(1, 5);
    }

    private static void wearHasEnds() {
        sentence("it WEARS by 0 .. 9 a YEAR where it is LAID, 1 without");
        due("9", wear("wears 9"), 9);
        due("10", wear("wears 10"), 9);
        due("0", wear("wears 0"), 0);
        due("below 0", wear("wears 0-1"), 0);
        due("without", wear("costs 5"), 1);
        due("none that holds", wear("wears 5 if x = 0;wears 6/0"), 1);
        due("the last that holds", wear("wears 5;wears 6;wears 7 if 1 = 2"), 6);
        due("where it is laid", wear("wears x + y - 3"), 6);
    }

    private static void barsHold() {
        sentence("it is BARRED there, if \"bars\" HOLDS");
        CarpetHalls h = hall(3, 3, 1);
        rule(h, "bars if x = 1;bars if y = 1;bars if 1 = 2");
        due("the first of them", h.asks(0, 1, 0, 1), 1);
        due("the second", h.asks(0, 0, 1, 1), 1);
        due("none of them", h.asks(0, 0, 0, 1), 0);
        due("at that cell alone", h.asks(0, 2, 2, 1), 0);
        CarpetHalls large = hall(3, 3, 2);
        rule(large, "bars if x = 1");
        due("its lowest left cell is asked alone", large.lay(0, 0, 0), 2);
    }

    private static void orderClauses() {
        sentence("CLAUSE: (\"lay\" SUM \"at\" SUM \"by\" SUM | \"roll\" SUM | \"mirror\" | \"pass\") [\"times\" TIMES] [\"if\" TEST].");
        due("no at", ordersFault("lay 0 by 0 at 0"), 6);
        due("no by", ordersFault("lay 0 at 0 at 0"), 11);
        due("the end for at", ordersFault("lay 0"), 5);
        due("the end for by", ordersFault("lay 0 at 0"), 10);
        due("the end for y", ordersFault("lay 0 at 0 by"), 13);
        due("roll without", ordersFault("roll"), 4);
        due("roll with two", ordersFault("roll 0 1"), 7);
        due("mirror with one", ordersFault("mirror 0"), 7);
        due("pass with one", ordersFault("pass 0"), 5);
        due("if ahead of times", ordersFault("pass if 1 = 1 times 2"), 14);
        due("times twice", ordersFault("pass times 2 times 2"), 13);
        due("all", ordersFault("lay 0 at 0 by 0 times 1 if 1 = 2;roll 0 times 1 if 1 = 2;mirror times 1 if 1 = 2"), NONE);
    }

    private static void timesTo20() {
        sentence("TIMES: a NUMBER 1 .. 20.");
        due("0", ordersFault("mirror times 0"), 13);
        due("21", ordersFault("mirror times 21"), 13);
        due("no number", ordersFault("mirror times done"), 13);
        due("a sum", ordersFault("mirror times 1 + 1"), 15);
        due("the end", ordersFault("mirror times"), 12);
        due("zeros ahead", orders(new CarpetHalls(), "mirror times 0020"), 20);
        due("1", orders(new CarpetHalls(), "mirror times 1"), 1);
        due("20", orders(new CarpetHalls(), "mirror times 20"), 20);
        due("a wrap", ordersFault("mirror times 4294967297"), 13);
    }

    private static void carpetsOfWords() {
        sentence("Words: \"year\" | \"done\" | \"latest\" | \"bare\" | \"paid\" | \"pile\" C | \"laid\" C (C: a NUMBER 0 .. 8).");
        due("0", ordersFault("mirror if pile 0 = laid 0"), NONE);
        due("8", ordersFault("mirror if pile 8 = laid 8"), NONE);
        due("pile 9", ordersFault("mirror if pile 9 = 0"), 15);
        due("laid 9", ordersFault("mirror if laid 9 = 0"), 15);
        due("pile without", ordersFault("mirror if pile = 0"), 15);
        due("laid and a word", ordersFault("mirror if laid done = 0"), 15);
        due("laid and brackets", ordersFault("mirror if laid [0] = 0"), 15);
        due("a wrap", ordersFault("mirror if pile 4294967296 = 0"), 15);
        due("year, done, latest, bare, paid", ordersFault("mirror if year + done + latest + bare + paid = 0"), NONE);
        due("mood is none", ordersFault("mirror if mood = 0"), 10);
    }

    private static void whatIsNoPart() {
        sentence("C, TIMES aside, NUMBERS and words count as PARTS.");
        due("50 piles", ordersFault("roll " + times("pile 1", 50, "+")), NONE);
        due("51 piles", ordersFault("roll " + times("pile 1", 51, "+")), 5 + 50 * 7);
        due("50 and TIMES", ordersFault("roll " + times("1", 48, "+") + " times 2 if 1=1;mirror times 20"), NONE);
        due("51 and TIMES", ordersFault("roll " + times("1", 49, "+") + " times 2 if 1=1"), 5 + 97 + 14);
        due("a 50th pile's C that can't be", ordersFault("roll " + times("pile 1", 49, "+") + "+pile 9"), 5 + 49 * 7 + 5);
    }

    private static void howOften() {
        sentence("Run CLAUSE by CLAUSE, each as often as TIMES tell (once without)");
        CarpetHalls h = new CarpetHalls();
        due("once", orders(h, "pass"), 1);
        due("year", h.count(14), 1);
        due("20 and 20 and 1", orders(h, "pass times 20;pass times 20;pass"), 41);
        due("year", h.count(14), 42);
        due("240 at most", orders(h, times("pass times 20", 12, ";")), 240);
        due("year", h.count(14), 282);
    }

    private static void whenAnOrderIsAsked() {
        sentence("each time its \"if\" is asked (not run, if it is not so or BROKEN), then its SUMS from the left");
        CarpetHalls h = hall(3, 1, 1, 1, 1);
        due("not so", orders(h, "pass if 1 = 2"), 0);
        due("broken", orders(h, "pass if 1/0 = 1"), 0);
        due("beyond", orders(h, "pass if 1000*1000*1000+1 > 0"), 0);
        due("none was run", h.count(14), 0);
        due("its sum is not asked then", orders(h, "roll 1/0 if 1 = 2"), 0);
        due("asked each time", orders(h, "pass times 20 if year < 3"), 3);
        due("sums each time", orders(h, "lay done at done by 0 times 3"), 3);
        due("the third", h.at(2, 0), 2);
        due("its if is asked ahead of its own deed", orders(h, "roll 0 times 2 if laid 0 = 1"), 1);
    }

    private static void wordsOfOrders() {
        sentence("done: how many were run in this TEXT, latest: what the latest lay in it told (-1: none)");
        CarpetHalls h = hall(4, 4, 2, 1);
        due("done at first", orders(h, "pass if done = 0"), 1);
        due("done anew", orders(h, "pass if done = 0"), 1);
        due("those not run don't count", orders(h, "pass if 1 = 2;pass if done = 0;pass if done = 1"), 2);
        due("none at first", orders(h, "pass if latest = 0-1"), 1);
        due("none behind a roll", orders(h, "mirror;pass if latest = 0-1"), 2);
        due("what it cost", orders(h, "lay 0 at 0 by 0;pass if latest = 2"), 2);
        due("none in a new text", orders(h, "pass if latest = 0-1"), 1);
        due("the latest of two", orders(h, "roll 0;lay 0 at 2 by 2;lay 1 at 0 by 0;mirror;pass if latest = 1"), 5);
    }

    private static void bareAndLaidOfOrders() {
        sentence("bare: how many CELLS are, laid: whether it is LAID (1, 0); pile, laid: -1 without such a CARPET.");
        CarpetHalls h = hall(2, 2, 2);
        due("all are", orders(h, "mirror if bare = 4"), 1);
        due("rolled", orders(h, "mirror if laid 0 = 0"), 1);
        due("none is", orders(h, "lay 0 at 0 by 0;mirror if bare = 0"), 2);
        due("laid", orders(h, "mirror if laid 0 = 1"), 1);
        due("no such carpet", orders(h, "mirror if laid 1 = 0-1;mirror if pile 1 = 0-1;mirror if laid 8 + pile 8 = 0-2"), 3);
        due("pile", orders(h, "mirror if pile 0 = 5"), 1);
        h.carpet(1, 0, 0);
        due("pile 0", orders(h, "mirror if pile 1 = 0;mirror if laid 1 = 0"), 2);
        due("paid", orders(h, "mirror if paid = 2"), 1);
    }

    private static void ordersThatCantBe() {
        sentence("One that can't be (a BROKEN SUM, as lay(), roll(), mirror(), pass() are REFUSED) ends it: all is as it was ahead of it.");
        CarpetHalls h = hall(4, 4, 2, 1, 1);
        h.carpet(1, 0, 1);
        h.lay(0, 0, 0);
        h.lay(3, 3, 0);
        h.terms(0, 995);
        h.mirror();
        String was = state(h);
        String much = "pass;roll 0;lay 0 at 0 by 2;lay 1 at 3 by 3;mirror times 20;pass;";
        String[] cant = {"roll 1/0", "roll 0+1000*1000*1000+1", "lay 2 at 12 by 0", "lay 2 at 0 by 12", "lay 2 at 0-1 by 0",
            "lay 2 at 0 by 0-1", "lay 9 at 0 by 0", "lay 0-1 at 0 by 0", "lay 1 at 0 by 0", "lay 2 at 3 by 3", "lay 3 at 2 by 0",
            "roll 9", "roll 0-1", "roll 2", "pass times 20", "lay 2 at 1/0 by 0", "lay 2 at 0 by 1%0",
            "lay 1000*1000*1000 at 0 by 0", "roll 0-1000*1000*1000"};
        for (int i = 0; i < cant.length; i++) {
            due(cant[i], orders(h, much + cant[i]), -3);
            due(cant[i] + " stopped", h.stopped(), 6);
            same(cant[i], state(h), was);
        }
        due("counted as -3 each", h.count(10), cant.length);
        due("not as -1", h.count(8), 0);
        due("not as -2", h.count(9), 0);
        due("what could be undone can be", h.undo(), 2);
        due("and no more", h.undo(), -3);
        due("without that one", orders(h, much + "mirror"), 26);
    }

    // ---------------------------------------------------------------- Terms III

    private static void toLay() {
        sentence("To LAY a CARPET that is rolled, no RAGS, at a CELL where it is within the HALL, covers no CELL another one does and is not BARRED");
        CarpetHalls h = hall(5, 4, 3, 2, 1);
        h.carpet(1, 0, 0);
        due("one column too far", h.lay(0, 3, 0), -3);
        due("one row too high", h.lay(0, 0, 2), -3);
        due("in the farthest corner", h.lay(0, 2, 1), 3);
        due("it is laid", h.lay(0, 0, 0), -3);
        due("it is rags", h.lay(3, 0, 0), -3);
        due("one cell of another one", h.lay(1, 1, 0), -3);
        due("no cell of another one", h.lay(1, 0, 0), 2);
        rule(h, "bars if x = 0 and y = 2");
        due("barred", h.lay(2, 0, 2), -3);
        due("not barred", h.lay(2, 0, 3), 1);
        due("larger than the hall", hall(2, 2, 3).lay(0, 0, 0), -3);
        due("as large as the hall", hall(2, 2, 2).lay(0, 0, 0), 2);
    }

    private static void paidAtMost() {
        sentence("PAID is more by what it COSTS (9,999 at most)");
        CarpetHalls h = hall(1, 1, 1);
        rule(h, "costs 98");
        for (int i = 0; i < 102; i++) {
            h.lay(0, 0, 0);
            h.roll(0);
        }
        due("102 times 98", h.count(3), 9996);
        due("what it costs is told whole", h.lay(0, 0, 0), 98);
        due("paid", h.count(3), 9999);
        h.undo();
        due("undone, paid is as it was", h.count(3), 9996);
    }

    private static void toMirror() {
        sentence("To MIRROR the HALL: each that is LAID lies as far from the right wall as it did from the left one.");
        CarpetHalls h = hall(7, 3, 2, 3, 1, 1);
        h.lay(0, 0, 0);
        h.lay(1, 2, 0);
        h.lay(2, 6, 2);
        due("three", h.mirror(), 3);
        due("from the left wall to the right", h.of(0, 3), 5);
        due("in the middle", h.of(1, 3), 2);
        due("from the right wall to the left", h.of(2, 3), 0);
        due("y stays", h.of(2, 4), 2);
        due("rolled stays so", h.of(3, 3), NONE);
        h.mirror();
        due("twice", h.of(0, 3), 0);
        CarpetHalls full = hall(3, 3, 3);
        full.lay(0, 0, 0);
        due("one as wide as the hall", full.mirror(), 1);
        due("stays", full.of(0, 3), 0);
    }

    private static void aYear() {
        sentence("A YEAR: PILE of all that are LAID is less by what they WEAR (0 at least; all asked as it was ahead)");
        CarpetHalls h = hall(4, 1);
        h.carpet(1, 0, 3);
        h.carpet(1, 0, 4);
        h.carpet(1, 0, 5);
        h.carpet(1, 0, 5);
        h.lay(0, 0, 0);
        h.lay(1, 1, 0);
        h.lay(2, 2, 0);
        rule(h, "wears 4;wears 9 if year > 0");
        due("two are rags", h.pass(), 2);
        due("less than it wears", h.of(0, 2), 0);
        due("just what it wears", h.of(1, 2), 0);
        due("more than it wears, by the year that was", h.of(2, 2), 1);
        due("rolled", h.of(3, 2), 5);
        due("rags don't wear again", h.pass(), 1);
    }

    private static void ragsAreRolled() {
        sentence("those that are RAGS then are rolled; it is the next YEAR (at 999 it can't be).");
        CarpetHalls h = hall(2, 1);
        h.carpet(1, 0, 1);
        h.carpet(1, 0, 2);
        h.lay(0, 0, 0);
        h.lay(1, 1, 0);
        h.terms(0, 997);
        due("one", h.pass(), 1);
        due("rolled", h.of(0, 3), NONE);
        due("the other is laid", h.of(1, 3), 1);
        due("the next year", h.count(14), 998);
        due("998", h.pass(), 1);
        due("999", h.count(14), 999);
        due("at 999", h.pass(), -3);
        due("999 still", h.count(14), 999);
        h.terms(0, 0);
        due("0", h.pass(), 0);
    }

    private static void fillsBegin() {
        sentence("each LAID with its lowest left CELL at the first BARE one (the lowest y, then x), as it can be, till none is BARE; told as a row of CARPETS.");
        CarpetHalls h = hall(3, 2, 1, 2, 1);
        due("length", h.fill(NONE), 3);
        due("the first", h.fill(0), 0);
        due("the second", h.fill(1), 1);
        due("the third", h.fill(2), 2);
        h.lay(2, 0, 0);
        due("x, then y: two at (1, 0), then (0, 1)", h.fill(0), 1);
        due("the last at (0, 1)", h.fill(1), 0);
        rule(h, "bars if y = 1");
        due("the last is barred", h.fill(NONE), NONE);
        CarpetHalls rags = hall(2, 1, 1);
        rags.carpet(1, 0, 0);
        due("rags don't fill", rags.fill(NONE), NONE);
        CarpetHalls one = hall(12, 12, 12);
        due("one alone", one.fill(NONE), 1);
        CarpetHalls cell = hall(1, 1, 2, 1);
        due("the larger one does not fit", cell.fill(0), 1);
        // The one that is LAID stands above the first cell: no larger one can have its lowest left cell there.
        CarpetHalls above = hall(3, 3, 1, 2, 1, 1, 1, 1);
        above.lay(0, 0, 1);
        due("one that is laid above the first bare cell", above.ways(), 48);
        due("the larger one comes behind it", above.fill(0), 2);
        due("the larger one", above.fill(1), 1);
        // The large one beside (0, 2) is higher by one: the middle one would reach into it.
        due("one on paper beside the first bare cell", hall(4, 4, 1, 3, 1, 2, 1).ways(), 0);
    }

    private static void waysAndCheapest() {
        sentence("WAYS: how many rows. CHEAPEST: what those of a FILL COST together, at least.");
        CarpetHalls h = hall(2, 2, 2, 1, 1, 1, 1, 1);
        due("1 and 5 * 4 * 3 * 2", h.ways(), 121);
        due("cheapest", h.cheapest(), 2);
        rule(h, "costs 99 if side = 2;costs carpet");
        due("by the last that holds", h.cheapest(), 0);
        rule(h, "costs 99;bars if side = 2");
        due("more than 99 together", h.cheapest(), 396);
        CarpetHalls nine = hall(9, 1, 1, 1, 1, 1, 1, 1, 1, 1, 1);
        due("all nine", nine.ways(), 362880);
        rule(nine, "costs 99");
        due("nine times the most", nine.cheapest(), 891);
        CarpetHalls eight = hall(8, 1, 1, 1, 1, 1, 1, 1, 1, 1, 1);
        due("eight of nine", eight.ways(), 362880);
    }

    private static void hallsThatAllFill() {
        sentence("HALLS that all CARPETS that are no RAGS FILL, each once, whatever is LAID: w wide and h high, 12 at most, BARRED as they are at these CELLS.");
        CarpetHalls h = hall(4, 4, 4, 4, 4);
        due("12 by 4 and 4 by 12", h.halls(NONE), 2);
        due("4 wide", h.halls(0), 412);
        due("12 wide", h.halls(1), 1204);
        h.carpet(9, 0, 0);
        due("rags aside", h.halls(NONE), 2);
        h.lay(0, 0, 0);
        due("whatever is laid", h.halls(NONE), 2);
        due("it is laid still", h.at(0, 0), 0);
        CarpetHalls corner = hall(3, 3, 1, 1);
        corner.lay(0, 2, 2);
        rule(corner, "bars if carpet = 1 and x + y = 0");
        due("the one that is laid comes first there", corner.halls(NONE), 2);
        CarpetHalls kinds = hall(3, 3);
        kinds.carpet(1, 2, 5);
        kinds.carpet(1, 3, 5);
        rule(kinds, "bars if kind = 3 and x + y = 0");
        due("their kinds are asked", kinds.halls(NONE), 2);
        rule(kinds, "bars if kind = 3");
        due("their kinds are asked", kinds.halls(NONE), 0);
        h.carpet(4, 0, 1);
        due("16 in a row are too many", h.halls(NONE), 1);
        due("8 by 8", h.halls(0), 808);
        rule(h, "bars if x = 4 and y = 4");
        due("barred", h.halls(NONE), 0);
        due("13 cells", hall(8, 8, 3, 2).halls(NONE), 0);
        due("12 by 12", hall(1, 1, 12).halls(0), 1212);
        due("1 by 1", hall(8, 8, 1).halls(0), 101);
        CarpetHalls two = hall(8, 8, 11, 1);
        due("122 cells", two.halls(NONE), 0);
        CarpetHalls most = hall(8, 8, 12, 12);
        due("more cells than any hall has", most.halls(NONE), 0);
        CarpetHalls nines = hall(8, 8, 12, 12, 12, 12, 12, 12, 12, 12, 12);
        due("the most cells", nines.halls(NONE), 0);
    }

    private static void innerHalls() {
        sentence("INNER halls: rectangles within the HALL, each not the HALL itself, that two or more CARPETS that are LAID cover just, none of these beyond it.");
        CarpetHalls h = hall(2, 2, 1, 1, 1, 1);
        h.lay(0, 0, 0);
        due("one alone", h.inner(), 0);
        h.lay(1, 1, 0);
        due("two", h.inner(), 1);
        h.lay(2, 0, 1);
        due("three", h.inner(), 2);
        h.lay(3, 1, 1);
        due("four, and the hall itself is none", h.inner(), 4);
        CarpetHalls wide = hall(3, 2, 1, 1, 1, 1);
        for (int c = 0; c < 4; c++) {
            wide.lay(c, c % 2, c / 2);
        }
        due("the same, a larger hall", wide.inner(), 5);
        CarpetHalls row = hall(2, 1, 1, 1);
        row.lay(0, 0, 0);
        row.lay(1, 1, 0);
        due("the hall itself alone", row.inner(), 0);
        CarpetHalls beyond = hall(3, 3, 2, 1, 1);
        beyond.lay(0, 0, 0);
        beyond.lay(1, 2, 0);
        due("two cells of a larger one are none", beyond.inner(), 0);
        beyond.lay(2, 2, 1);
        due("two, and three", beyond.inner(), 2);
        CarpetHalls apart = hall(3, 3, 1, 1);
        apart.lay(0, 0, 0);
        apart.lay(1, 2, 0);
        due("a gap between", apart.inner(), 0);
        due("without carpets", new CarpetHalls().inner(), 0);
    }

    private static void crossPoints() {
        sentence("CROSSES: points at which four unlike CARPETS that are LAID meet.");
        CarpetHalls h = hall(4, 4, 1, 2, 1, 1);
        h.lay(0, 0, 0);
        h.lay(2, 1, 0);
        h.lay(3, 0, 1);
        due("three", h.crosses(), 0);
        h.lay(1, 1, 1);
        due("four", h.crosses(), 1);
        CarpetHalls side = hall(4, 4, 2, 1, 1);
        side.lay(0, 0, 0);
        side.lay(1, 2, 0);
        side.lay(2, 2, 1);
        due("three round a point at a side", side.crosses(), 0);
        CarpetHalls nine = hall(3, 3, 1, 1, 1, 1, 1, 1, 1, 1, 1);
        for (int c = 0; c < 9; c++) {
            nine.lay(c, c % 3, c / 3);
        }
        due("nine have four points", nine.crosses(), 4);
        nine.roll(4);
        due("none without the middle", nine.crosses(), 0);
        CarpetHalls turned = hall(2, 2, 1, 1, 1, 1);
        for (int c = 0; c < 4; c++) {
            turned.lay(3 - c, c % 2, c / 2);
        }
        due("in any order", turned.crosses(), 1);
        CarpetHalls twos = hall(12, 12, 6, 6, 6, 6);
        for (int c = 0; c < 4; c++) {
            twos.lay(c, c % 2 * 6, c / 2 * 6);
        }
        due("the middle of the largest hall", twos.crosses(), 1);
    }

    private static void currentsAtLines() {
        sentence("CURRENTS through a line y 0 .. HIGH: SIDES of all CARPETS LAID with their lower side at that line together, of all with their upper side there.");
        CarpetHalls h = hall(5, 5, 3, 2, 2, 1);
        h.lay(0, 0, 0);
        h.lay(1, 3, 0);
        h.lay(2, 0, 3);
        due("begin at 0", h.currents(0, 0), 5);
        due("end at 0", h.currents(0, 1), 0);
        due("end at 2", h.currents(2, 1), 2);
        due("begin at 3", h.currents(3, 0), 2);
        due("end at 3", h.currents(3, 1), 3);
        due("begin at HIGH", h.currents(5, 0), 0);
        due("end at HIGH", h.currents(5, 1), 2);
        due("beyond HIGH", h.currents(6, 1), NONE);
        due("below 0", h.currents(-1, 0), NONE);
        CarpetHalls full = hall(12, 12, 12);
        full.lay(0, 0, 0);
        due("the largest ends at 12", full.currents(12, 1), 12);
        due("13 is no line", full.currents(13, 1), NONE);
    }

    private static void fittingSquares() {
        sentence("FITTING for a SIDE: at how many CELLS a square of that SIDE would be within the HALL, all its CELLS BARE.");
        CarpetHalls h = hall(4, 3, 1);
        due("1", h.fitting(1), 12);
        due("as high as the hall", h.fitting(3), 2);
        due("higher", h.fitting(4), 0);
        h.lay(0, 1, 1);
        due("1", h.fitting(1), 11);
        due("2", h.fitting(2), 2);
        due("3", h.fitting(3), 0);
        due("12 in the largest", hall(12, 12).fitting(12), 1);
        due("12 in the next largest", hall(12, 11).fitting(12), 0);
        CarpetHalls full = hall(2, 2, 2);
        full.lay(0, 0, 0);
        due("none is bare", full.fitting(1), 0);
    }

    private static void twosAlike() {
        sentence("ALIKE: twos of CARPETS that are LAID of one SIDE.");
        CarpetHalls h = hall(9, 1, 1, 1, 1, 1, 1, 1, 1, 1, 1);
        h.lay(0, 0, 0);
        due("one is no two", h.alike(), 0);
        h.lay(1, 1, 0);
        due("two", h.alike(), 1);
        for (int c = 2; c < 9; c++) {
            h.lay(c, c, 0);
        }
        due("nine", h.alike(), 36);
        CarpetHalls unlike = hall(5, 2, 2, 1, 2, 1);
        unlike.lay(0, 0, 0);
        unlike.lay(1, 2, 0);
        due("unlike sides", unlike.alike(), 0);
        unlike.lay(2, 3, 0);
        due("a rolled one does not count", unlike.alike(), 1);
    }

    private static void freeOnes() {
        sentence("FREE: CARPETS that are LAID without which (that one alone rolled) there would be a FILL with one row alone, which is not it alone.");
        CarpetHalls h = hall(3, 1, 1, 1, 1);
        h.lay(0, 0, 0);
        due("two rows of three cells", h.free(), 0);
        h.lay(1, 1, 0);
        // Rolled, each could change places with carpet 2: two rows.
        due("two rows", h.free(), 0);
        h.lay(2, 2, 0);
        due("itself alone", h.free(), 0);
        rule(h, "bars if carpet = 0");
        due("no row at all", h.free(), 0);
        h.carpet(1, 0, 1);
        rule(h, "bars if carpet = 0 or carpet = 1 and x = 1 or carpet = 2 and x = 2");
        due("another one alone, of each", h.free(), 7);
        CarpetHalls one = hall(2, 2, 2, 1, 1, 1, 1);
        one.lay(0, 0, 0);
        due("it and others", one.free(), 0);
        rule(one, "bars if carpet = 0 or not [carpet - 1] % 2 = x or not [carpet - 1] / 2 = y");
        due("one row of four others", one.free(), 1);
        due("none is laid", hall(1, 1, 1).free(), 0);
        due("no carpets", new CarpetHalls().free(), 0);
    }

    private static void freeOfARow() {
        sentence("(that one alone rolled)");
        CarpetHalls h = hall(3, 2, 2, 1, 1);
        h.lay(0, 0, 0);
        h.lay(1, 2, 0);
        // Without 0: its own place must be filled by it (carpet 2 is too small): [0, 2] is the one row.
        due("0 without, one row of two", h.free(), 1);
        CarpetHalls nine = hall(9, 1, 1, 1, 1, 1, 1, 1, 1, 1, 1);
        for (int c = 0; c < 7; c++) {
            nine.lay(c, c, 0);
        }
        nine.lay(8, 7, 0);
        rule(nine, "bars if carpet = 8 and x = 8;bars if carpet = 7 and x = 7;bars if carpet < 7");
        due("the ninth, with one row of two", nine.free(), 256);
        CarpetHalls kinds = hall(2, 1);
        kinds.carpet(1, 1, 5);
        kinds.carpet(1, 2, 5);
        kinds.lay(0, 0, 0);
        due("two rows", kinds.free(), 0);
        rule(kinds, "bars if kind = x + 1");
        due("the other row alone", kinds.free(), 1);
    }

    private static void floorsBySeen() {
        sentence("FLOORS: how many FILLS (as rows) there are by which all SEEN is so (CARPETS that are LAID count, too; of a CELL that is not in the HALL nothing is so).");
        CarpetHalls h = hall(3, 2, 2, 1, 1);
        due("nothing seen", h.floors(), 4);
        h.seen(2, 1, 1);
        due("the last cell", h.floors(), 2);
        h.seen(1, 0, 2);
        due("both are so", h.floors(), 2);
        h.seen(0, 0, 1);
        due("not all are so", h.floors(), 0);
        h.forget();
        h.seen(3, 0, 1);
        due("x is WIDE", h.floors(), 0);
        h.forget();
        h.seen(0, 2, 1);
        due("y is HIGH", h.floors(), 0);
        h.forget();
        h.seen(11, 11, 1);
        due("the farthest that can be seen", h.floors(), 0);
        h.forget();
        h.lay(0, 0, 0);
        h.seen(1, 1, 2);
        due("one that is laid, so", h.floors(), 2);
        h.seen(1, 1, 1);
        due("one that is laid, not so", h.floors(), 0);
        CarpetHalls high = hall(2, 3, 2, 1, 1);
        high.seen(0, 2, 1);
        due("above a larger one", high.floors(), 2);
        high.forget();
        high.seen(1, 2, 2);
        due("the highest right of a larger one", high.floors(), 2);
        high.seen(0, 0, 1);
        due("below a larger one", high.floors(), 2);
        high.seen(1, 1, 1);
        due("within a larger one", high.floors(), 0);
        CarpetHalls large = hall(12, 12, 12);
        large.seen(11, 11, 12);
        due("the largest hall's last cell", large.floors(), 1);
    }

    private static void whereToLook() {
        sentence("To LOOK at: the CELL that is BARE now at which of these the most that have the same CARPET there are as few as can be; the first.");
        CarpetHalls h = hall(2, 2, 1, 1, 1, 1);
        due("all alike, the first: x", h.look(0), 0);
        due("all alike, the first: y", h.look(1), 0);
        due("left", h.look(2), 6);
        h.lay(3, 0, 0);
        due("the first that is bare", h.look(0), 1);
        due("left", h.look(2), 2);
        CarpetHalls rows = hall(1, 3, 1, 1, 1);
        rule(rows, "bars if y = 0 and carpet > 0");
        due("not the first: y", rows.look(1), 1);
        due("left", rows.look(2), 1);
        rows.seen(0, 2, 1);
        due("what is seen and so changes nothing", rows.look(2), 1);
        CarpetHalls cols = hall(3, 1, 1, 1, 1);
        rule(cols, "bars if x = 0 and carpet > 0");
        due("not the first: x", cols.look(0), 1);
        CarpetHalls three = hall(2, 3, 1, 1, 2, 2, 2);
        three.seen(0, 0, 1);
        due("three of six each below, two of six each above: y", three.look(1), 1);
        due("left", three.look(2), 2);
        CarpetHalls right = hall(4, 2, 1, 1, 1, 2, 1);
        right.seen(3, 1, 1);
        due("not the cell that was seen, but the first as good: x", right.look(0), 3);
        due("y", right.look(1), 0);
        due("left", right.look(2), 12);
        CarpetHalls last = hall(12, 12, 12);
        due("one alone", last.look(2), 1);
    }

    private static void chancesOfFew() {
        sentence("FEW: the chance, of 1,000,000,000,000 parts, that of n carpets, each of which MOTHS of ten eat, fewer than k are eaten: each part is cut.");
        CarpetHalls h = new CarpetHalls();
        due("none of one", h.few(1, 1), 900000000000L);
        due("fewer than two of one", h.few(2, 1), ALL_PARTS);
        due("nothing to cut at 12", h.few(1, 12), 282429536481L);
        due("cut at 13", h.few(1, 13), 254186582832L);
        // 254186582832.9 and 367158397425.3
        due("each is cut", h.few(2, 13), 254186582832L + 367158397425L);
        h.terms(1, 0);
        due("no moths", h.few(1, 99), ALL_PARTS);
        due("no moths, fewer than 20", h.few(20, 99), ALL_PARTS);
        h.terms(1, 10);
        due("all are eaten", h.few(1, 1), 0);
        due("all are eaten, none of none", h.few(1, 0), ALL_PARTS);
        due("19 of 19 are fewer than 20", h.few(20, 19), ALL_PARTS);
        due("20 of 20 are not", h.few(20, 20), 0);
        h.terms(1, 9);
        due("too small for one part", h.few(1, 13), 0);
        due("just a part", h.few(1, 12), 1);
    }

    private static void comparedWithNone() {
        sentence("COMPARED: what CHEAPEST is by a LAW in place of that in FORCE (NONE: none).");
        CarpetHalls h = hall(2, 1, 1, 1);
        rule(h, "costs 10");
        law(h, "costs 20;bars if carpet = 1 and x = 1");
        law(h, "bars");
        due("the one in force", h.compare(0), 10 + 10);
        due("none", h.compare(NONE), 2);
        due("another one, and its bars", h.compare(1), 40);
        due("no fill by it", h.compare(2), NONE);
        due("the one in force stays", h.cheapest(), 20);
        h.force(2);
        due("its bars don't matter", h.compare(0), 20);
    }

    // ---------------------------------------------------------------- Terms IV

    private static int next(int s) {
        return (int) ((s * 1103L + 12345) % 1000003);
    }

    private static void seedsAndNumbers() {
        sentence("YEARS with a SEED, n 1 .. 60, on paper: s is the SEED (0 .. 1,000,000)");
        CarpetHalls h = hall(5, 4, 2, 1);
        int[][] bad = {{-1, 1}, {1000001, 1}, {0, 0}, {0, 61}, {LOW, 1}, {FAR, 1}, {0, LOW}, {0, FAR}, {0, -1}};
        for (int[] b : bad) {
            due("years" + Arrays.toString(b), h.years(b[0], b[1]), -1);
        }
        due("nothing was drawn", h.drawn(0, 0), NONE);
        // 9036: carpet 0; 979026: x 1; 874786: y 2; 898411: it is laid.
        due("the most", h.years(1000000, 1), 16);
        due("x", h.drawn(0, 1), 1);
        due("y", h.drawn(0, 2), 2);
        due("pile", h.drawn(0, 0), 4);
        due("sixty", h.years(1000000, 60) >= 0 ? h.drawn(0, 0) >= 0 ? 1 : 0 : 0, 1);
        due("on paper alone", h.count(14), 0);
        due("on paper alone", h.count(1), 0);
        due("on paper alone", h.count(3), 0);
    }

    private static void drawsWrap() {
        sentence("a DRAW of m: s becomes (s times 1103 and 12345) modulo 1,000,003, it is s modulo m.");
        // The seed for which s becomes the most that it can be, and the one for which it becomes 0.
        int most = NONE;
        int least = NONE;
        for (int s = 0; s <= 1000000; s++) {
            most = next(s) == 1000002 ? s : most;
            least = next(s) == 0 ? s : least;
        }
        for (int seed : new int[] {0, most, least, 1000000, 999999}) {
            if (seed < 0) {
                continue;
            }
            CarpetHalls h = hall(5, 4, 1, 1, 1, 1, 1, 1, 1);
            int first = next(seed);
            int second = next(first);
            int third = next(second);
            boolean lays = next(third) % 3 < 2;
            due("years of seed " + seed, h.years(seed, 1), lays ? 19 : 20);
            due("x", h.drawn(first % 7, 1), lays ? second % 5 : NONE);
            due("y", h.drawn(first % 7, 2), lays ? third % 4 : NONE);
            due("pile", h.drawn(first % 7, 0), lays ? 4 : 5);
        }
    }

    private static void yearsEndAt999() {
        sentence("Each time (at YEAR 999 it ends) DRAWS of CARPETS, of WIDE, of HIGH, of 3");
        CarpetHalls h = hall(2, 1, 1, 1);
        h.lay(0, 0, 0);
        h.lay(1, 1, 0);
        h.terms(0, 999);
        due("at once", h.years(1, 60), 0);
        due("no year passed", h.drawn(0, 0), 5);
        h.terms(0, 998);
        h.years(1, 60);
        due("one year passed", h.drawn(0, 0) + h.drawn(1, 0) < 10 ? 1 : 0, 1);
        due("no more than one", h.drawn(0, 0) >= 4 && h.drawn(1, 0) >= 4 ? 1 : 0, 1);
        int one = h.drawn(0, 0) * 10 + h.drawn(1, 0);
        h.years(1, 1);
        due("the same as one", h.drawn(0, 0) * 10 + h.drawn(1, 0), one);
        due("not refused", h.status(), 0);
    }

    private static void whatADrawDoes() {
        sentence("at 0, 1 (the last DRAW) that CARPET is LAID there, at 2 ROLLED, each if it can be; then the YEAR passes.");
        boolean[] met = new boolean[3];
        for (int seed = 0; seed < 200; seed++) {
            int first = next(seed);
            int second = next(first);
            int third = next(second);
            int last = next(third) % 3;
            CarpetHalls rolled = hall(3, 3, 2, 1);
            int side = first % 2 == 0 ? 2 : 1;
            boolean fits = second % 3 + side <= 3 && third % 3 + side <= 3;
            met[last] = true;
            due("rolled, seed " + seed, rolled.years(seed, 1), last < 2 && fits ? 9 - side * side : 9);
            CarpetHalls laid = hall(3, 3, 2, 1);
            laid.lay(0, 0, 0);
            laid.lay(1, 2, 2);
            due("laid, seed " + seed, laid.years(seed, 1), last == 2 ? 4 + side * side : 4);
            due("it wears, if it is laid still", laid.drawn(first % 2, 0), last == 2 ? 5 : 4);
            due("x stays, if it is laid still", laid.drawn(first % 2, 1), last == 2 ? NONE : side == 2 ? 0 : 2);
            CarpetHalls rags = hall(3, 3);
            rags.carpet(1, 0, 0);
            due("rags can't be laid", rags.years(seed, 1), 9);
            due("nor wear", rags.drawn(0, 0), 0);
            CarpetHalls thin = hall(3, 3);
            thin.carpet(1, 0, 1);
            due("worn at once", thin.years(seed, 1), 9);
            due("pile", thin.drawn(0, 0), last < 2 ? 0 : 1);
            CarpetHalls barred = hall(3, 3, 1);
            rule(barred, "bars if year = 0");
            due("barred", barred.years(seed, 1), 9);
        }
        due("every last draw was met", met[0] && met[1] && met[2] ? 1 : 0, 1);
        CarpetHalls kinds = hall(3, 3);
        kinds.carpet(1, 2, 5);
        rule(kinds, "bars if kind = 0;wears 9 if kind = 2");
        due("its kind is asked", kinds.years(0, 60), 9);
        due("it was laid, and wore by its kind", kinds.drawn(0, 0), 0);
    }

    private static void rowsAndFluff() {
        sentence("A ROW: the TAPE's bytes by threes: SIDE, a KIND, PILE: a CARPET; one that can't be, one within which the TAPE ends, one for which there is no room is FLUFF: nothing.");
        String[] cant = {"\0\0\1", "\15\0\1", "\1\4\1", "\1\0\12", "\u0081\0\1", "\1\u0080\1", "\1\0\u00ff", "\1\0", "\1"};
        for (String one : cant) {
            CarpetHalls h = new CarpetHalls();
            write(h, one);
            due("no carpet came", h.row(), 0);
            due("fluff", h.fluff(), 1);
            due("carpets", h.count(0), 0);
        }
        CarpetHalls h = new CarpetHalls();
        write(h, "\1\0\0\14\3\11");
        due("the least and the most", h.row(), 2);
        due("no fluff", h.fluff(), 0);
        due("side", h.of(1, 0), 12);
        write(h, times("\1\0\1", 7, ""));
        due("seven more", h.row(), 7);
        due("no fluff", h.fluff(), 0);
        write(h, "\1\0\1\1\0");
        due("no room", h.row(), 0);
        due("no room, and the end", h.fluff(), 2);
        due("not refused", h.status(), 0);
        CarpetHalls whole = new CarpetHalls();
        write(whole, times("\1\0\1", 133, "") + "\1");
        due("a whole tape", whole.row(), 9);
        due("its fluff", whole.fluff(), 125);
    }

    private static void whatImagesKeep() {
        sentence("IMAGES 0, 1 keep all but the TAPE, FAULT, FLUFF, where ORDERS stopped, what can be undone (nothing, behind back()), the latest YEARS");
        CarpetHalls h = hall(4, 3, 2, 1);
        rule(h, "costs 9");
        h.lay(0, 1, 1);
        h.seen(3, 2, 1);
        h.image(0);
        h.carpet(3, 1, 2);
        h.terms(0, 5);
        h.terms(1, 6);
        h.terms(2, 7);
        rule(h, "costs 3;bars if x = 1");
        h.forget();
        h.roll(0);
        h.hall(9, 9);
        write(h, "\1\0\1\1");
        h.row();
        law(h, "??");
        orders(h, "mirror;roll 8");
        law(h, "  ?");
        h.years(3, 2);
        int drawn = h.drawn(0, 0) * 100 + h.drawn(1, 0) * 10 + h.drawn(2, 0);
        h.mirror();
        write(h, "abcde");
        h.lay(0, 12, 0);
        int refused = h.count(8) + h.count(10) * 10 + h.count(12) * 100;
        due("back", h.back(0), 0);
        due("the tape", h.count(7), 5);
        due("fault", h.fault(), 2);
        due("fluff", h.fluff(), 1);
        due("stopped", h.stopped(), 1);
        due("what can be undone", h.count(6), 0);
        due("undo", h.undo(), -3);
        due("the latest years", h.drawn(0, 0) * 100 + h.drawn(1, 0) * 10 + h.drawn(2, 0), drawn);
        due("refused", h.count(8) + (h.count(10) - 1) * 10 + h.count(12) * 100, refused);
        CarpetHalls again = hall(4, 3, 2, 1);
        rule(again, "costs 9");
        again.lay(0, 1, 1);
        again.seen(3, 2, 1);
        again.image(0);
        again.back(0);
        same("back", state(h), state(again));
    }

    private static void imagesStay() {
        sentence("BACK to one all that it keeps is as it was then (IMAGES stay).");
        CarpetHalls h = hall(2, 2, 1);
        h.image(0);
        h.lay(0, 1, 1);
        h.image(1);
        for (int i = 0; i < 3; i++) {
            due("back to the first", h.back(0), 0);
            due("rolled", h.count(1), 0);
            h.lay(0, 0, 1);
            due("back to the second", h.back(1), 0);
            due("laid", h.at(1, 1), 0);
            h.roll(0);
        }
        h.image(0);
        h.back(1);
        due("an image kept anew", h.back(0), 0);
        due("is as it was then", h.count(1), 0);
        // Not how many there are alone, but what they say.
        CarpetHalls two = hall(2, 3);
        two.image(0);
        two.carpet(2, 0, 5);
        two.carpet(1, 1, 6);
        two.carpet(1, 1, 6);
        two.seen(0, 2, 1);
        rule(two, "costs 7 if x = 1;bars if y = 1 and side = 2");
        two.image(1);
        due("floors", two.floors(), 2);
        two.back(0);
        two.carpet(1, 3, 1);
        two.carpet(3, 2, 2);
        two.carpet(3, 2, 2);
        two.seen(1, 0, 3);
        rule(two, "wears 8;costs 3 if y = 1;bars");
        two.image(0);
        two.back(1);
        due("side", two.of(0, 0), 2);
        due("kind", two.of(1, 1), 1);
        due("pile", two.of(1, 2), 6);
        due("floors", two.floors(), 2);
        due("costs", two.asks(0, 1, 1, 0), 7);
        due("costs", two.asks(0, 0, 1, 0), 2);
        due("barred", two.asks(0, 0, 1, 1), 1);
        due("barred", two.asks(0, 0, 2, 1), 0);
        two.back(0);
        due("kind", two.of(0, 1), 3);
        due("costs", two.asks(1, 1, 1, 0), 3);
        due("barred", two.asks(1, 0, 0, 1), 1);
        CarpetHalls wide = hall(3, 2, 2, 1, 1);
        rule(wide, "bars if side = 2 and x = 1");
        wide.seen(2, 0, 1);
        wide.image(0);
        wide.forget();
        wide.seen(0, 0, 1);
        wide.image(1);
        wide.back(0);
        due("what was seen on the right", wide.floors(), 2);
        wide.back(1);
        due("what was seen on the left", wide.floors(), 0);
    }

    private static void noneIsMinusOne() {
        sentence("The constants: `NONE = -1`: There is none.");
        due("NONE", CarpetHalls.NONE, -1);
    }

    // ---------------------------------------------------------------- the promises' own words

    private static void promise1() {
        promise(1, "A hall without carpets.");
        CarpetHalls h = new CarpetHalls();
        due("carpets", h.count(0), 0);
        due("bare", h.bare(0), 64);
        due("ways", h.ways(), 0);
        due("look", h.look(0), NONE);
        due("undo", h.undo(), -3);
    }

    private static void promise2() {
        promise(2, "A CARPET: its number. -1; -5.");
        CarpetHalls h = new CarpetHalls();
        due("the first", h.carpet(1, 0, 0), 0);
        due("a bad one", h.carpet(0, 0, 0), -1);
        due("the second", h.carpet(1, 0, 0), 1);
        for (int i = 2; i < 9; i++) {
            h.carpet(1, 0, 0);
        }
        due("a tenth", h.carpet(1, 0, 0), -5);
        due("a bad tenth", h.carpet(1, 0, -1), -1);
    }

    private static void promise3() {
        promise(3, "Of a CARPET SIDE (what 0), KIND (1), PILE (2), x (3; NONE: rolled), y (4; NONE), by how much it WEARS (5; NONE: rolled). NONE.");
        CarpetHalls h = hall(9, 9);
        h.carpet(2, 3, 4);
        int[] rolled = {2, 3, 4, NONE, NONE, NONE};
        int[] laid = {2, 3, 4, 5, 6, 1};
        for (int what = 0; what < 6; what++) {
            due("rolled, what " + what, h.of(0, what), rolled[what]);
        }
        h.lay(0, 5, 6);
        for (int what = 0; what < 6; what++) {
            due("laid, what " + what, h.of(0, what), laid[what]);
        }
        for (int bad : new int[] {-1, 6, LOW, FAR}) {
            due("what " + bad, h.of(0, bad), NONE);
        }
        for (int bad : new int[] {-1, 1, 9, LOW, FAR}) {
            due("carpet " + bad, h.of(bad, 0), NONE);
        }
        due("x 0 is not NONE", atZero().of(0, 3), 0);
        due("y 0 is not NONE", atZero().of(0, 4), 0);
        due("no refusal", h.count(8) + h.count(9), 0);
    }

    private static CarpetHalls atZero() {
        CarpetHalls h = hall(2, 2, 1);
        h.lay(0, 0, 0);
        return h;
    }

    private static void promise4() {
        promise(4, "The HALL is so WIDE and HIGH: how many CELLS it has. -1; -3 a CARPET is LAID.");
        CarpetHalls h = atZero();
        due("one is laid", h.hall(2, 2), -3);
        due("one is laid, and bad", h.hall(2, 0), -1);
        h.roll(0);
        due("none is laid", h.hall(7, 11), 77);
        due("carpets stay", h.count(0), 1);
    }

    private static void promise5() {
        promise(5, "Which CARPET covers a CELL of the HALL. NONE (BARE; no such CELL).");
        CarpetHalls h = hall(3, 3, 2);
        h.lay(0, 1, 1);
        due("its lowest left", h.at(1, 1), 0);
        due("its highest right", h.at(2, 2), 0);
        due("bare", h.at(0, 0), NONE);
        int[][] bad = {{3, 2}, {2, 3}, {-1, 1}, {1, -1}, {12, 12}, {LOW, 1}, {1, LOW}, {FAR, 1}, {1, FAR}};
        for (int[] b : bad) {
            due("at" + Arrays.toString(b), h.at(b[0], b[1]), NONE);
        }
    }

    private static void promise6() {
        promise(6, "Of a CARPET at a CELL (x, y 0 .. 11) what it COSTS (what 0), whether BARRED (1: 1, 0), whether it can be LAID there now (2: 1, 0). NONE.");
        CarpetHalls h = hall(2, 2, 2, 1);
        h.carpet(1, 0, 0);
        rule(h, "costs 7 if x = 11;bars if y = 11;bars if carpet = 1 and x = 1");
        due("costs beyond the hall", h.asks(0, 11, 11, 0), 7);
        due("barred beyond the hall", h.asks(0, 11, 11, 1), 1);
        due("can't be laid beyond the hall", h.asks(0, 11, 0, 2), 0);
        due("can be laid", h.asks(0, 0, 0, 2), 1);
        due("not by the wall", h.asks(0, 1, 0, 2), 0);
        due("not as it is barred", h.asks(1, 1, 0, 2), 0);
        due("not as it is rags", h.asks(2, 0, 0, 2), 0);
        due("rags cost, too", h.asks(2, 0, 0, 0), 1);
        h.lay(0, 0, 0);
        due("not as it is laid", h.asks(0, 0, 0, 2), 0);
        due("one that is laid costs", h.asks(0, 0, 0, 0), 2);
        due("not as another one lies there", h.asks(1, 0, 0, 2), 0);
        int[][] bad = {{0, -1, 0, 0}, {0, 12, 0, 0}, {0, 0, -1, 0}, {0, 0, 12, 0}, {0, 0, 0, -1}, {0, 0, 0, 3}, {3, 0, 0, 0},
            {-1, 0, 0, 0}, {FAR, FAR, FAR, 2}, {LOW, LOW, LOW, 2}, {0, FAR, 0, 2}, {0, 0, LOW, 2}};
        for (int[] b : bad) {
            due("asks" + Arrays.toString(b), h.asks(b[0], b[1], b[2], b[3]), NONE);
        }
    }

    private static void promise7() {
        promise(7, "A TERM: what it was. -1.");
        CarpetHalls h = new CarpetHalls();
        due("what it was at first", h.terms(1, 7), 1);
        due("what it was", h.terms(1, 7), 7);
        for (int bad : new int[] {-1, 3, LOW, FAR}) {
            due("term " + bad, h.terms(bad, 0), -1);
        }
        due("10 is too much for MOOD", h.terms(2, 10), -1);
        due("11 is not too much for YEAR", h.terms(0, 11), 0);
    }

    private static void promise8() {
        promise(8, "Twenty bytes come behind the TAPE, four of each number, the highest first: how many it has. NONE, if there would be more than 400.");
        CarpetHalls h = new CarpetHalls();
        due("20", h.feed(0x01000102, 0x01020302, 0x03040304, 0x05000506, 0x01060708), 20);
        h.end(18);
        due("six carpets", h.row(), 6);
        for (int c = 0; c < 6; c++) {
            due("the highest byte first: side " + c, h.of(c, 0), c + 1);
            due("the highest byte first: kind " + c, h.of(c, 1), c % 4);
            due("the highest byte first: pile " + c, h.of(c, 2), c + 1);
        }
        h = new CarpetHalls();
        for (int i = 1; i <= 20; i++) {
            due("feed", h.feed(LOW, FAR, -1, 0, 1), 20 * i);
        }
        due("a 401st", h.feed(0, 0, 0, 0, 0), NONE);
        due("nothing came", h.count(7), 400);
        h.end(380);
        due("just 400", h.feed(0, 0, 0, 0, 0), 400);
        h.end(381);
        due("one too many", h.feed(0, 0, 0, 0, 0), NONE);
        due("nothing came", h.count(7), 381);
        due("no refusal", h.count(8) + h.count(11) + h.count(12), 0);
    }

    private static void promise9() {
        promise(9, "The TAPE has its first n bytes alone: n. NONE, if it has not so many, or n is below 0.");
        CarpetHalls h = new CarpetHalls();
        due("none of none", h.end(0), 0);
        due("one of none", h.end(1), NONE);
        h.feed(0x62617273, 0x3F202020, 0x20202020, 0x20202020, 0x20202020);
        due("21 of 20", h.end(21), NONE);
        due("20 of 20", h.end(20), 20);
        due("-1", h.end(-1), NONE);
        due("far below", h.end(LOW), NONE);
        due("far too many", h.end(FAR), NONE);
        due("20 still", h.count(7), 20);
        due("4 of 20", h.end(4), 4);
        due("5 of 4", h.end(5), NONE);
        due("what is left is a law", h.law(), 0);
        h.feed(0x62617273, 0x20202020, 0x20202020, 0x20202020, 0x20202020);
        h.end(4);
        h.feed(0x3B626172, 0x73202020, 0x20202020, 0x20202020, 0x20202020);
        due("behind what is left", h.law(), 1);
    }

    private static void promise10() {
        promise(10, "A ROW, the TAPE is empty then: how many CARPETS came. -6 the TAPE is empty.");
        CarpetHalls h = new CarpetHalls();
        due("empty", h.row(), -6);
        due("status", h.status(), -6);
        write(h, "\1\0\1");
        due("one", h.row(), 1);
        due("empty then", h.count(7), 0);
        write(h, "\0");
        due("none came", h.row(), 0);
        due("not refused", h.status(), 0);
        due("empty then, too", h.count(7), 0);
    }

    private static void promise11() {
        promise(11, "How many times there was FLUFF in the latest row() that was not REFUSED (0 ahead of any).");
        CarpetHalls h = new CarpetHalls();
        due("ahead of any", h.fluff(), 0);
        h.row();
        due("behind a refused one", h.fluff(), 0);
        write(h, "\0\0\0\0");
        h.row();
        due("two", h.fluff(), 2);
        h.row();
        due("behind a refused one", h.fluff(), 2);
        write(h, "\1\0\1");
        h.row();
        due("none in the latest", h.fluff(), 0);
    }

    private static void promise12() {
        promise(12, "The TAPE, which is empty then, becomes a LAW: its number. -5 (ahead of reading it; the TAPE is empty then, too); -6 (blanks alone: FAULT at the end).");
        CarpetHalls h = new CarpetHalls();
        due("no byte at all", h.law(), -6);
        due("fault", h.fault(), 0);
        due("one blank", law(h, " "), -6);
        due("fault", h.fault(), 1);
        due("400 blanks", law(h, times(" ", 400, "")), -6);
        due("fault", h.fault(), 400);
        due("empty then", h.count(7), 0);
        for (int i = 0; i < 6; i++) {
            due("law " + i, law(h, "bars"), i);
            due("empty then", h.count(7), 0);
        }
        due("a seventh", law(h, "bars"), -5);
        due("empty then, too", h.count(7), 0);
        due("a seventh that can't be", law(h, "??"), -5);
        due("not read", h.fault(), NONE);
        due("a seventh without a byte", h.law(), -5);
    }

    private static void promise13() {
        promise(13, "ORDERS, the TAPE is empty then: how many were run. -3 one can't be; -6 (as for law()).");
        CarpetHalls h = new CarpetHalls();
        due("no byte at all", h.orders(), -6);
        due("fault", h.fault(), 0);
        due("blanks alone", orders(h, "   "), -6);
        due("fault", h.fault(), 3);
        due("empty then", h.count(7), 0);
        due("none is run", orders(h, "pass if 1 = 2"), 0);
        due("not refused", h.status(), 0);
        due("one can't be", orders(h, "roll 0"), -3);
        due("empty then", h.count(7), 0);
        due("a text that can't be runs nothing", orders(h, "pass;pass;pas"), -6);
        due("the year", h.count(14), 0);
    }

    private static void promise14() {
        promise(14, "FAULT of the latest law(), orders() that read a TEXT: its place; NONE without.");
        CarpetHalls h = new CarpetHalls();
        due("ahead of any", h.fault(), NONE);
        law(h, "bars ?");
        due("of a law", h.fault(), 5);
        orders(h, "mirror ?");
        due("of orders", h.fault(), 7);
        orders(h, "roll 0");
        due("orders that can't be have none", h.fault(), NONE);
        law(h, "?");
        law(h, "bars");
        due("a law without", h.fault(), NONE);
        law(h, " ?");
        h.row();
        due("a row reads no text", h.fault(), 1);
        for (int i = 0; i < 5; i++) {
            law(h, "bars");
        }
        law(h, "  ?");
        due("the seventh is not read", h.fault(), NONE);
        orders(h, "  ?");
        law(h, "bars");
        due("nor is this one", h.fault(), 2);
    }

    private static void promise15() {
        promise(15, "Which CLAUSE of the latest orders() could not be. NONE.");
        CarpetHalls h = new CarpetHalls();
        due("ahead of any", h.stopped(), NONE);
        orders(h, "roll 0");
        due("the first", h.stopped(), 0);
        orders(h, times("mirror", 11, ";") + ";roll 0");
        due("the twelfth", h.stopped(), 11);
        orders(h, "mirror");
        due("all could be", h.stopped(), NONE);
        orders(h, "roll 0");
        orders(h, "rol");
        due("none was run", h.stopped(), NONE);
        orders(h, "roll 0");
        h.orders();
        due("an empty tape", h.stopped(), NONE);
        orders(h, "mirror;roll 0");
        law(h, "?");
        due("a law does not matter", h.stopped(), 1);
    }

    private static void promise16() {
        promise(16, "A LAW is in FORCE (NONE: none): which was. -2.");
        CarpetHalls h = new CarpetHalls();
        due("none for none", h.force(NONE), NONE);
        due("not refused", h.status(), 0);
        due("not counted", h.count(8), 0);
        due("no law 0", h.force(0), -2);
        law(h, "bars");
        due("law 0", h.force(0), NONE);
        for (int bad : new int[] {1, 6, -2, LOW, FAR}) {
            due("law " + bad, h.force(bad), -2);
        }
        due("law 0 still", h.force(NONE), 0);
    }

    private static void promise17() {
        promise(17, "To LAY: what it COSTS. -1 (x, y 0 .. 11); -2; -3.");
        CarpetHalls h = hall(12, 12, 1, 1);
        int[][] bad = {{-1, 0}, {12, 0}, {0, -1}, {0, 12}, {LOW, 0}, {FAR, 0}, {0, LOW}, {0, FAR}};
        for (int[] b : bad) {
            due("lay at " + Arrays.toString(b), h.lay(0, b[0], b[1]), -1);
        }
        for (int b : new int[] {-1, 2, 9, LOW, FAR}) {
            due("carpet " + b, h.lay(b, 0, 0), -2);
        }
        due("(11, 11)", h.lay(0, 11, 11), 1);
        due("again", h.lay(0, 0, 0), -3);
        due("(0, 0)", h.lay(1, 0, 0), 1);
        CarpetHalls small = hall(2, 2, 1);
        due("11 is a number that can be", small.lay(0, 11, 11), -3);
        due("paid stays", small.count(3), 0);
        due("nothing to undo", small.count(6), 0);
    }

    private static void promise18() {
        promise(18, "To ROLL: how many CELLS are BARE then. -2; -3.");
        CarpetHalls h = hall(2, 2, 2, 1);
        for (int b : new int[] {-1, 2, 9, LOW, FAR}) {
            due("carpet " + b, h.roll(b), -2);
        }
        due("it is rolled", h.roll(0), -3);
        h.lay(0, 0, 0);
        due("all", h.roll(0), 4);
        due("again", h.roll(0), -3);
        h.lay(1, 0, 0);
        due("all", h.roll(1), 4);
    }

    private static void promise19() {
        promise(19, "To MIRROR: how many are LAID.");
        CarpetHalls h = hall(9, 1, 1, 1, 1, 1, 1, 1, 1, 1, 1);
        due("none", h.mirror(), 0);
        due("can be undone", h.count(6), 1);
        for (int c = 0; c < 9; c++) {
            h.lay(c, c, 0);
        }
        due("all nine", h.mirror(), 9);
        due("the first is the last", h.of(0, 3), 8);
    }

    private static void promise20() {
        promise(20, "A YEAR: how many are RAGS by it. -3.");
        CarpetHalls h = hall(2, 1);
        h.carpet(1, 0, 0);
        due("none, though one is", h.pass(), 0);
        h.carpet(1, 0, 1);
        h.carpet(1, 0, 1);
        h.lay(1, 0, 0);
        h.lay(2, 1, 0);
        due("two", h.pass(), 2);
        due("none again", h.pass(), 0);
        h.terms(0, 999);
        due("at 999", h.pass(), -3);
        due("nothing to undo", h.count(6), 0);
    }

    private static void promise21() {
        promise(21, "The latest lay(), roll(), mirror(), pass() (by ORDERS, too; 16 are kept) is undone: 0 .. 3. -3 there is none");
        CarpetHalls h = hall(2, 2, 1);
        due("none", h.undo(), -3);
        h.lay(0, 0, 0);
        h.roll(0);
        h.mirror();
        h.pass();
        for (int kind = 3; kind >= 0; kind--) {
            due("undone", h.undo(), kind);
        }
        due("none", h.undo(), -3);
        h.lay(0, 0, 0);
        for (int i = 0; i < 15; i++) {
            h.mirror();
        }
        due("sixteen", h.count(6), 16);
        for (int i = 0; i < 15; i++) {
            h.undo();
        }
        due("the sixteenth", h.undo(), 0);
        h.lay(0, 0, 0);
        for (int i = 0; i < 16; i++) {
            h.pass();
            h.terms(0, 0);
            h.mirror();
        }
        due("behind a term", h.count(6), 1);
        orders(h, "mirror times 17");
        due("seventeen and one", h.count(6), 16);
        for (int i = 0; i < 16; i++) {
            due("by orders", h.undo(), 2);
        }
        due("a seventeenth", h.undo(), -3);
    }

    private static void undoBringsAllBack() {
        promise(21, "is undone");
        CarpetHalls h = hall(3, 1);
        h.carpet(1, 0, 1);
        h.carpet(1, 0, 9);
        rule(h, "wears 20;costs 50");
        h.terms(0, 700);
        String[] ahead = new String[6];
        for (int i = 0; i < 6; i++) {
            ahead[i] = state(h);
            switch (i) {
                case 0: h.lay(0, 0, 0); break;
                case 1: h.lay(1, 1, 0); break;
                case 2: h.mirror(); break;
                case 3: h.roll(0); break;
                case 4: h.lay(0, 0, 0); break;
                default: h.pass(); break;
            }
        }
        due("both are rags", h.count(2), 2);
        h.force(NONE);
        h.force(0);
        for (int i = 5; i >= 0; i--) {
            h.undo();
            same("undo of the deed " + i, state(h), ahead[i]);
        }
    }

    private static void sixteenAreKept() {
        promise(21, "16 are kept");
        CarpetHalls h = hall(12, 12, 1);
        String[] ahead = new String[40];
        for (int i = 0; i < 40; i++) {
            ahead[i] = h.of(0, 3) + " " + h.of(0, 4) + " " + h.count(3);
            if (i % 2 == 0) {
                h.lay(0, i % 12, i % 11);
            } else {
                h.roll(0);
            }
            due("how many can be undone", h.count(6), Math.min(16, i + 1));
        }
        for (int i = 39; i >= 24; i--) {
            due("the deed " + i, h.undo(), i % 2);
            same("undo of the deed " + i, h.of(0, 3) + " " + h.of(0, 4) + " " + h.count(3), ahead[i]);
        }
        due("the seventeenth", h.undo(), -3);
    }

    private static void whatHindersUndo() {
        promise(21, "(nothing that was ahead of a carpet(), hall(), terms(), row() that was not REFUSED can be undone)");
        CarpetHalls first = new CarpetHalls();
        first.mirror();
        first.carpet(1, 0, 1);
        due("the first carpet", first.undo(), -3);
        CarpetHalls h = hall(2, 2, 1);
        h.mirror();
        h.carpet(0, 0, 0);
        h.hall(0, 0);
        h.terms(0, 1000);
        h.row();
        due("refused ones don't hinder", h.count(6), 1);
        h.carpet(1, 0, 1);
        due("carpet", h.undo(), -3);
        h.mirror();
        h.hall(2, 2);
        due("hall, as it was", h.undo(), -3);
        h.mirror();
        h.terms(0, 0);
        due("terms, as it was", h.undo(), -3);
        h.mirror();
        write(h, "\0");
        h.row();
        due("row, without a carpet", h.undo(), -3);
        for (int i = 0; i < 9; i++) {
            h.carpet(1, 0, 1);
        }
        h.mirror();
        h.carpet(1, 0, 1);
        due("a tenth does not hinder", h.undo(), 2);
        h.lay(0, 0, 0);
        h.hall(3, 3);
        due("a hall that can't be does not hinder", h.undo(), 0);
    }

    private static void promise22() {
        promise(22, "How many CELLS are BARE (what 0), x of the first (1), y (2). NONE (none is, others).");
        CarpetHalls h = hall(2, 2, 2);
        due("all", h.bare(0), 4);
        due("x", h.bare(1), 0);
        due("y", h.bare(2), 0);
        for (int bad : new int[] {-1, 3, LOW, FAR}) {
            due("what " + bad, h.bare(bad), NONE);
        }
        h.lay(0, 0, 0);
        due("none", h.bare(0), 0);
        due("x of none", h.bare(1), NONE);
        due("y of none", h.bare(2), NONE);
        due("others of none", h.bare(3), NONE);
        CarpetHalls last = hall(12, 12, 11, 1);
        last.lay(0, 0, 0);
        due("right of the large one: x", last.bare(1), 11);
        due("y", last.bare(2), 0);
    }

    private static void promise23() {
        promise(23, "A FILL, the first row: how many CARPETS (i NONE; none is BARE: 0), the i-th. NONE (there is none).");
        CarpetHalls h = hall(2, 1, 1, 1, 1);
        due("how many", h.fill(NONE), 2);
        due("the first", h.fill(0), 0);
        due("the second", h.fill(1), 1);
        for (int bad : new int[] {2, 9, -2, LOW, FAR}) {
            due("the " + bad, h.fill(bad), NONE);
        }
        rule(h, "bars if carpet = 0 and x = 0 or carpet = 1 and x = 0");
        due("the first that can be", h.fill(0), 2);
        due("then", h.fill(1), 0);
        rule(h, "bars if x = 1");
        due("none", h.fill(NONE), NONE);
        due("of none", h.fill(0), NONE);
        h.force(NONE);
        h.lay(2, 0, 0);
        h.lay(0, 1, 0);
        due("none is bare", h.fill(NONE), 0);
        due("none is bare, the first", h.fill(0), NONE);
    }

    private static void promise24() {
        promise(24, "WAYS (none is BARE: 1).");
        CarpetHalls h = hall(1, 1, 1);
        due("one", h.ways(), 1);
        h.lay(0, 0, 0);
        due("none is bare", h.ways(), 1);
        rule(h, "bars");
        due("none is bare, all is barred", h.ways(), 1);
        h.roll(0);
        due("none at all", h.ways(), 0);
    }

    private static void promise25() {
        promise(25, "CHEAPEST (none is BARE: 0). NONE (there is none).");
        CarpetHalls h = hall(1, 1, 1);
        due("one", h.cheapest(), 1);
        h.lay(0, 0, 0);
        due("none is bare", h.cheapest(), 0);
        h.roll(0);
        rule(h, "costs 0");
        due("for nothing", h.cheapest(), 0);
        rule(h, "bars");
        due("there is none", h.cheapest(), NONE);
    }

    private static void promise26() {
        promise(26, "HALLS: how many (i NONE; all are RAGS, no CARPETS: 0), the i-th as 100 times w and h, rising. NONE.");
        CarpetHalls h = new CarpetHalls();
        due("no carpets", h.halls(NONE), 0);
        due("no carpets, the first", h.halls(0), NONE);
        h.carpet(1, 0, 0);
        due("all are rags", h.halls(NONE), 0);
        h.carpet(1, 0, 1);
        h.carpet(1, 0, 1);
        due("two", h.halls(NONE), 2);
        due("rising", h.halls(0), 102);
        due("rising", h.halls(1), 201);
        for (int bad : new int[] {2, -2, LOW, FAR}) {
            due("the " + bad, h.halls(bad), NONE);
        }
        CarpetHalls many = hall(8, 8, 2, 2, 2, 2, 2, 2);
        due("2, 4, 6, 12 wide", many.halls(NONE), 4);
        int[] want = {212, 406, 604, 1202};
        for (int i = 0; i < 4; i++) {
            due("the " + i, many.halls(i), want[i]);
        }
    }

    private static void promises27And28And31() {
        promise(27, "INNER halls: how many.");
        CarpetHalls h = hall(9, 1, 1, 1, 1, 1, 1, 1, 1, 1, 1);
        due("none is laid", h.inner(), 0);
        for (int c = 0; c < 9; c++) {
            h.lay(c, c, 0);
        }
        due("all nine: 36 less the hall", h.inner(), 35);
        promise(28, "CROSSES.");
        due("none in a row", h.crosses(), 0);
        due("no carpets", new CarpetHalls().crosses(), 0);
        promise(31, "ALIKE: how many twos.");
        due("nine", h.alike(), 36);
        due("no carpets", new CarpetHalls().alike(), 0);
    }

    private static void promise29() {
        promise(29, "CURRENTS that begin at a line (what 0), that end there (1). NONE.");
        CarpetHalls h = atZero();
        due("begin", h.currents(0, 0), 1);
        due("end", h.currents(1, 1), 1);
        due("HIGH", h.currents(2, 1), 0);
        int[][] bad = {{-1, 0}, {3, 0}, {0, -1}, {0, 2}, {LOW, 0}, {FAR, 0}, {0, LOW}, {0, FAR}};
        for (int[] b : bad) {
            due("currents" + Arrays.toString(b), h.currents(b[0], b[1]), NONE);
        }
        due("no carpets", new CarpetHalls().currents(8, 1), 0);
    }

    private static void promise30() {
        promise(30, "FITTING for a SIDE 1 .. 12. NONE.");
        CarpetHalls h = new CarpetHalls();
        due("1", h.fitting(1), 64);
        due("8", h.fitting(8), 1);
        due("12", h.fitting(12), 0);
        for (int bad : new int[] {0, 13, -1, LOW, FAR}) {
            due("side " + bad, h.fitting(bad), NONE);
        }
    }

    private static void promise32() {
        promise(32, "FREE, as bits.");
        CarpetHalls h = hall(2, 2, 1, 2, 1, 1, 1);
        h.lay(0, 0, 0);
        h.lay(2, 1, 0);
        h.lay(3, 0, 1);
        rule(h, "bars if x = 0 and y = 0 and carpet > 0;bars if x = 1 and y = 0 and carpet < 4 or x = 1 and y = 1 and carpet = 4");
        // Without 2 the one row is [4, 2], without 3 it is [4, 3]; without 0 nothing may come to (1, 1) behind it.
        due("2 and 3", h.free(), 12);
    }

    private static void promise33() {
        promise(33, "SEEN: how often there was. -1; -5.");
        CarpetHalls h = new CarpetHalls();
        due("once", h.seen(5, 5, 5), 1);
        due("the same again", h.seen(5, 5, 5), 2);
        due("a bad one", h.seen(5, 5, 0), -1);
        for (int i = 3; i < 7; i++) {
            h.seen(5, 5, 5);
        }
        due("a seventh", h.seen(5, 5, 5), -5);
        due("a bad seventh", h.seen(12, 5, 5), -1);
        h.forget();
        due("room again", h.seen(5, 5, 5), 1);
    }

    private static void promise34() {
        promise(34, "SEEN is nothing then: how often there was.");
        CarpetHalls h = hall(1, 1, 1);
        due("nothing", h.forget(), 0);
        for (int i = 0; i < 6; i++) {
            h.seen(0, 0, 2);
        }
        due("floors", h.floors(), 0);
        due("six", h.forget(), 6);
        due("nothing then", h.count(4), 0);
        due("floors", h.floors(), 1);
        due("nothing again", h.forget(), 0);
    }

    private static void promise35() {
        promise(35, "FLOORS.");
        CarpetHalls h = hall(1, 1, 1);
        h.lay(0, 0, 0);
        due("none is bare", h.floors(), 1);
        h.seen(0, 0, 1);
        due("none is bare, it is so", h.floors(), 1);
        h.seen(0, 0, 2);
        due("none is bare, it is not so", h.floors(), 0);
        due("no carpets", new CarpetHalls().floors(), 0);
    }

    private static void promise36() {
        promise(36, "To LOOK at: x (what 0), y (1), how many are left at most (2). NONE (no FLOORS; none is BARE).");
        CarpetHalls h = hall(2, 1, 1, 1);
        due("x", h.look(0), 0);
        due("y", h.look(1), 0);
        due("left", h.look(2), 1);
        for (int bad : new int[] {-1, 3, LOW, FAR}) {
            due("what " + bad, h.look(bad), NONE);
        }
        h.seen(0, 0, 2);
        for (int what = 0; what < 3; what++) {
            due("no floors", h.look(what), NONE);
        }
        h.forget();
        h.lay(0, 0, 0);
        due("one is bare: x", h.look(0), 1);
        due("one is bare: left", h.look(2), 1);
        h.lay(1, 1, 0);
        for (int what = 0; what < 3; what++) {
            due("none is bare", h.look(what), NONE);
        }
    }

    private static void promise37() {
        promise(37, "FEW, k 1 .. 20, n 0 .. 99. NONE.");
        CarpetHalls h = new CarpetHalls();
        due("the least", h.few(1, 0), ALL_PARTS);
        due("the most can be", h.few(20, 99) > 0 ? 1 : 0, 1);
        int[][] bad = {{0, 1}, {21, 1}, {-1, 1}, {1, -1}, {1, 100}, {LOW, 1}, {FAR, 1}, {1, LOW}, {1, FAR}};
        for (int[] b : bad) {
            due("few" + Arrays.toString(b), h.few(b[0], b[1]), NONE);
        }
        due("k above n", h.few(20, 1), ALL_PARTS);
        due("k is n", h.few(2, 2), 990000000000L);
        due("no refusal", h.count(8), 0);
    }

    private static void promise38() {
        promise(38, "COMPARED. NONE (no such LAW; there is no FILL).");
        CarpetHalls h = hall(1, 1, 1);
        due("none", h.compare(NONE), 1);
        due("no law 0", h.compare(0), NONE);
        law(h, "costs 5");
        due("law 0", h.compare(0), 5);
        for (int bad : new int[] {1, -2, 6, LOW, FAR}) {
            due("law " + bad, h.compare(bad), NONE);
        }
        h.lay(0, 0, 0);
        due("none is bare", h.compare(0), 0);
        due("none is bare, no such law", h.compare(1), NONE);
        due("no fill", new CarpetHalls().compare(NONE), NONE);
    }

    private static void promise39() {
        promise(39, "YEARS, kept as the latest: how many CELLS are BARE behind them. -1; -3 there are no CARPETS.");
        CarpetHalls h = new CarpetHalls();
        due("no carpets", h.years(0, 1), -3);
        due("no carpets, bad", h.years(0, 61), -1);
        h.carpet(1, 0, 0);
        due("rags alone", h.years(0, 60), 64);
        due("kept", h.drawn(0, 0), 0);
        h.carpet(1, 0, 9);
        due("refused", h.years(-1, 1), -1);
        due("what was kept stays", h.drawn(1, 0), NONE);
        h.years(0, 1);
        due("the latest", h.drawn(1, 0) >= 8 ? 1 : 0, 1);
    }

    private static void promise40() {
        promise(40, "Behind the latest YEARS of a CARPET PILE (what 0), x (1; NONE), y (2; NONE). NONE.");
        CarpetHalls h = hall(1, 1, 1, 2);
        due("ahead of any", h.drawn(0, 0), NONE);
        h.years(0, 1);
        due("pile of one that never fits", h.drawn(1, 0), 5);
        due("x of it", h.drawn(1, 1), NONE);
        due("y of it", h.drawn(1, 2), NONE);
        for (int bad : new int[] {-1, 3, LOW, FAR}) {
            due("what " + bad, h.drawn(0, bad), NONE);
        }
        for (int bad : new int[] {-1, 2, 9, LOW, FAR}) {
            due("carpet " + bad, h.drawn(bad, 0), NONE);
        }
        h.carpet(1, 0, 1);
        due("one that came behind", h.drawn(2, 0), NONE);
        h.hall(2, 2);
        h.lay(1, 0, 0);
        due("what is laid now does not matter", h.drawn(1, 1), NONE);
    }

    private static void promises41And42() {
        promise(41, "IMAGE k is kept: 0; -1.");
        CarpetHalls h = new CarpetHalls();
        for (int bad : new int[] {-1, 2, LOW, FAR}) {
            due("image " + bad, h.image(bad), -1);
        }
        due("0", h.image(0), 0);
        promise(42, "BACK to IMAGE k: 0. -1; -2 it was not kept.");
        for (int bad : new int[] {-1, 2, LOW, FAR}) {
            due("back " + bad, h.back(bad), -1);
        }
        due("0", h.back(0), 0);
        due("1 was not kept", h.back(1), -2);
        h.mirror();
        due("refused, it can be undone still", h.back(1) == -2 ? h.count(6) : NONE, 1);
        due("1", h.image(1), 0);
        due("1", h.back(1), 0);
    }

    private static void promise43() {
        promise(43, "0 CARPETS, 1 how many are LAID, 2 RAGS, 3 PAID, 4 SEEN, 5 LAWS, 6 how many can be undone, 7 bytes of the TAPE");
        CarpetHalls h = hall(12, 11, 1, 1, 1);
        h.carpet(1, 0, 0);
        h.carpet(1, 0, 0);
        h.terms(0, 21);
        h.terms(1, 3);
        h.terms(2, 4);
        h.seen(0, 0, 1);
        for (int i = 0; i < 4; i++) {
            law(h, "costs 7");
        }
        h.force(2);
        h.lay(0, 0, 0);
        h.lay(1, 1, 0);
        h.lay(2, 2, 0);
        h.mirror();
        h.mirror();
        write(h, "abcdefg");
        int[] want = {5, 3, 2, 21, 1, 4, 5, 7};
        for (int i = 0; i < want.length; i++) {
            due("count(" + i + ")", h.count(i), want[i]);
        }
        promise(43, "13 the LAW in FORCE, 14 .. 16 TERMS 0 .. 2, 17 WIDE, 18 HIGH. NONE for others.");
        int[] more = {2, 21, 3, 4, 12, 11};
        for (int i = 0; i < more.length; i++) {
            due("count(" + (13 + i) + ")", h.count(13 + i), more[i]);
        }
        for (int bad : new int[] {-1, 19, LOW, FAR}) {
            due("count(" + bad + ")", h.count(bad), NONE);
        }
    }

    private static void countsOfRefusals() {
        promise(43, "8 .. 12 how many calls were REFUSED by -1, -2, -3, -5, -6 (IMAGES do not keep that)");
        CarpetHalls h = hall(1, 1, 1, 1, 1, 1, 1, 1, 1, 1, 1);
        h.image(0);
        h.lay(0, 12, 0);
        for (int i = 0; i < 2; i++) {
            h.roll(9);
        }
        for (int i = 0; i < 3; i++) {
            h.roll(0);
        }
        for (int i = 0; i < 4; i++) {
            h.carpet(1, 0, 1);
        }
        for (int i = 0; i < 5; i++) {
            h.row();
        }
        h.back(0);
        for (int i = 0; i < 5; i++) {
            due("count(" + (8 + i) + ")", h.count(8 + i), i + 1);
        }
        h.of(9, 0);
        h.at(-1, 0);
        h.asks(9, 0, 0, 0);
        h.feed(0, 0, 0, 0, 0);
        h.end(99);
        h.fill(99);
        h.look(9);
        h.few(0, 0);
        h.compare(9);
        h.drawn(9, 9);
        h.count(99);
        h.force(NONE);
        h.currents(99, 0);
        h.fitting(99);
        h.halls(99);
        h.bare(99);
        for (int i = 0; i < 5; i++) {
            due("NONE is no refusal: count(" + (8 + i) + ")", h.count(8 + i), i + 1);
        }
    }

    private static void promise44() {
        promise(44, "What the latest call of carpet, hall, terms, row, law, orders, force, lay, roll, mirror, pass, undo, seen, years, image, back was REFUSED by; 0 if it was not, or ahead of any.");
        due("ahead of any", new CarpetHalls().status(), 0);
        for (int which = 0; which < 16; which++) {
            CarpetHalls h = hall(2, 2, 1);
            int refusal = refusedCall(h, which);
            due("refused call " + which, h.status(), refusal);
            due("is below 0: call " + which, refusal < 0 || which == 9 ? 1 : 0, 1);
            others(h);
            due("others don't matter behind call " + which, h.status(), refusal);
            goodCall(h, which);
            due("good call " + which, h.status(), 0);
        }
    }

    /** mirror() is never refused: 0 there. */
    private static int refusedCall(CarpetHalls h, int which) {
        switch (which) {
            case 0: return h.carpet(0, 0, 0);
            case 1: return h.hall(0, 0);
            case 2: return h.terms(9, 9);
            case 3: return h.row();
            case 4: return h.law();
            case 5: return orders(h, "roll 0");
            case 6: return h.force(5);
            case 7: return h.lay(9, 0, 0);
            case 8: return h.roll(0);
            case 9: return h.mirror();
            case 10: h.terms(0, 999); return h.pass();
            case 11: return h.undo();
            case 12: return h.seen(0, 0, 0);
            case 13: return h.years(0, 0);
            case 14: return h.image(9);
            default: return h.back(0);
        }
    }

    private static void goodCall(CarpetHalls h, int which) {
        if (which != 6) {
            h.force(9);
        } else {
            h.roll(9);
        }
        switch (which) {
            case 0: h.carpet(1, 0, 1); break;
            case 1: h.hall(2, 2); break;
            case 2: h.terms(0, 0); break;
            case 3: h.end(0); h.feed(0, 0, 0, 0, 0); h.row(); break;
            case 4: law(h, "bars"); break;
            case 5: orders(h, "mirror"); break;
            case 6: h.force(NONE); break;
            case 7: h.lay(0, 0, 0); break;
            case 8: h.lay(0, 0, 0); h.force(9); h.roll(0); break;
            case 9: h.mirror(); break;
            case 10: h.terms(0, 998); h.force(9); h.pass(); break;
            case 11: h.mirror(); h.force(9); h.undo(); break;
            case 12: h.seen(0, 0, 1); break;
            case 13: h.years(0, 1); break;
            case 14: h.image(0); break;
            default: h.image(0); h.force(9); h.back(0); break;
        }
    }

    private static void others(CarpetHalls h) {
        h.of(9, 9);
        h.at(9, 9);
        h.asks(9, 9, 9, 9);
        h.feed(0, 0, 0, 0, 0);
        h.end(0);
        h.end(-1);
        h.fluff();
        h.fault();
        h.stopped();
        h.bare(9);
        h.fill(9);
        h.ways();
        h.cheapest();
        h.halls(9);
        h.inner();
        h.crosses();
        h.currents(99, 9);
        h.fitting(99);
        h.alike();
        h.free();
        h.forget();
        h.floors();
        h.look(9);
        h.few(0, 0);
        h.compare(9);
        h.drawn(9, 9);
        h.count(99);
    }

    // ----------------------------------------------------------------

    private static void terms() {
        callsOfAnObject();
        hallSizes();
        cellsOfTheHall();
        nineCarpets();
        carpetsNumbers();
        rolledAtFirst();
        ragsAtPileZero();
        noTwoOnOneCell();
        paidHasEnds();
        seenNumbers();
        termsNumbers();
        refusalsHaveAnOrder();
        refusedCallsChangeNothing();
        tapeOf400();
        tokens();
        twelveClauses();
        rowsOfTests();
        plainTests();
        sumsAndTerms();
        numbersTo1000();
        fiftyParts();
        eightBrackets();
        placesOfFaults();
        beyondABillion();
        dividedByZero();
        askedOnlyIfItMatters();
        sixLaws();
        lawClauses();
        lawWords();
        whenAClauseHolds();
        costsHaveEnds();
        wearHasEnds();
        barsHold();
        orderClauses();
        timesTo20();
        carpetsOfWords();
        whatIsNoPart();
        howOften();
        whenAnOrderIsAsked();
        wordsOfOrders();
        bareAndLaidOfOrders();
        ordersThatCantBe();
    }

    private static void onPaper() {
        toLay();
        paidAtMost();
        toMirror();
        aYear();
        ragsAreRolled();
        fillsBegin();
        waysAndCheapest();
        hallsThatAllFill();
        innerHalls();
        crossPoints();
        currentsAtLines();
        fittingSquares();
        twosAlike();
        freeOnes();
        freeOfARow();
        floorsBySeen();
        whereToLook();
        chancesOfFew();
        comparedWithNone();
        seedsAndNumbers();
        drawsWrap();
        yearsEndAt999();
        whatADrawDoes();
        rowsAndFluff();
        whatImagesKeep();
        imagesStay();
        noneIsMinusOne();
    }

    private static void promises() {
        promise1();
        promise2();
        promise3();
        promise4();
        promise5();
        promise6();
        promise7();
        promise8();
        promise9();
        promise10();
        promise11();
        promise12();
        promise13();
        promise14();
        promise15();
        promise16();
        promise17();
        promise18();
        promise19();
        promise20();
        promise21();
        undoBringsAllBack();
        sixteenAreKept();
        whatHindersUndo();
        promise22();
        promise23();
        promise24();
        promise25();
        promise26();
        promises27And28And31();
        promise29();
        promise30();
        promise32();
        promise33();
        promise34();
        promise35();
        promise36();
        promise37();
        promise38();
        promise39();
        promise40();
        promises41And42();
        promise43();
        countsOfRefusals();
        promise44();
    }

    public static void main(String[] args) throws Exception {
        document = Files.readString(Path.of("../shared/DOC.md"), StandardCharsets.UTF_8);
        terms();
        onPaper();
        promises();
        for (int number = 1; number <= 44; number++) {
            if (!promises.contains(number)) {
                wrong++;
                System.out.println("promise " + number + " has no test");
            }
        }
        System.out.println(wrong == 0 ? "all " + asked + " answers to " + sentences + " sentences are as due"
                : wrong + " answers are not as due");
        if (wrong != 0) {
            System.exit(1);
        }
    }
}
