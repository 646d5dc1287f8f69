import java.util.Arrays;

/** Halls laid with square carpets; the document DOC.md says, promise by promise, what each call does. */
public final class CarpetHalls {

    public static final int NONE = -1;

    private static final int BAD_NUMBER = -1;
    private static final int NO_SUCH = -2;
    private static final int CANT_BE = -3;
    private static final int NO_ROOM = -5;
    private static final int BAD_TEXT = -6;

    private static final int GRID = 12;
    private static final int CELLS = GRID * GRID;
    private static final int MOST_CARPETS = 9;
    private static final int MOST_KIND = 3;
    private static final int MOST_PILE = 9;
    private static final int MOST_PAID = 9999;
    private static final int MOST_SEEN = 6;
    private static final int MOST_LAWS = 6;
    private static final int MOST_CLAUSES = 12;
    private static final int MOST_UNDOS = 16;
    private static final int IMAGES = 2;
    private static final int LONGEST_TAPE = 400;
    private static final int FED_BYTES = 20;

    private static final int YEAR = 0;
    private static final int MOTHS = 1;
    private static final int MOOD = 2;
    private static final int TERMS = 3;
    private static final int LAST_YEAR = 999;
    private static final int MOST_MOTHS = 10;
    private static final int MOST_MOOD = 9;

    /** More rows of carpets than there can be: nine carpets make fewer than a million. */
    private static final int ALL_ROWS = 1000000000;

    /** The four deeds, by the numbers that undo() tells them with. */
    private static final int LAY = 0;
    private static final int ROLL = 1;
    private static final int MIRROR = 2;
    private static final int PASS = 3;

    private final Stand now = new Stand();
    private final Stand[] images = new Stand[IMAGES];
    private final boolean[] kept = new boolean[IMAGES];
    private final Floor paper = new Floor();
    private final Floor sheet = new Floor();
    private final Tape tape = new Tape();
    private final Reader reader = new Reader();
    private final Text errand = new Text();
    private final Reckoner clerk = new Reckoner();
    private final Judge judge = new Judge();
    private final Past past = new Past();
    private final Search search = new Search();
    private final Chance chance = new Chance();
    private final int[] refused = new int[5];
    private int status = 0;
    private int fault = NONE;
    private int fluff = 0;
    private int stopped = NONE;

    public CarpetHalls() {
        for (int k = 0; k < IMAGES; k++) {
            images[k] = new Stand();
        }
    }

    // ---- carpets, the hall, the terms

    public int carpet(int side, int kind, int pile) {
        int number = now.floor.add(side, kind, pile);
        if (number >= 0) {
            past.clear();
        }
        return answer(number);
    }

    public int of(int carpet, int what) {
        Floor floor = now.floor;
        if (!floor.has(carpet)) {
            return NONE;
        }
        switch (what) {
            case 0: return floor.side[carpet];
            case 1: return floor.kind[carpet];
            case 2: return floor.pile[carpet];
            case 3: return floor.x[carpet];
            case 4: return floor.y[carpet];
            case 5: return floor.isLaid(carpet) ? judge.wearOf(now.forcedLaw(), floor, carpet) : NONE;
            default: return NONE;
        }
    }

    public int hall(int wide, int high) {
        if (wide < 1 || wide > GRID || high < 1 || high > GRID) {
            return answer(BAD_NUMBER);
        }
        if (now.floor.laidCarpets() > 0) {
            return answer(CANT_BE);
        }
        now.floor.wide = wide;
        now.floor.high = high;
        past.clear();
        return answer(wide * high);
    }

    public int at(int x, int y) {
        return now.floor.carpetOn(x, y);
    }

    public int asks(int carpet, int x, int y, int what) {
        Floor floor = now.floor;
        if (!floor.has(carpet) || !onGrid(x) || !onGrid(y)) {
            return NONE;
        }
        switch (what) {
            case 0: return judge.costOf(now.forcedLaw(), floor, carpet, x, y);
            case 1: return judge.isBarred(now.forcedLaw(), floor, carpet, x, y) ? 1 : 0;
            case 2: return canLie(floor, carpet, x, y) ? 1 : 0;
            default: return NONE;
        }
    }

    public int terms(int what, int value) {
        if (what < 0 || what >= TERMS || value < 0 || value > mostOfTerm(what)) {
            return answer(BAD_NUMBER);
        }
        int was = now.floor.terms[what];
        now.floor.terms[what] = value;
        past.clear();
        return answer(was);
    }

    // ---- the tape and what is read from it

    public int feed(int a, int b, int c, int d, int e) {
        if (tape.length + FED_BYTES > LONGEST_TAPE) {
            return NONE;
        }
        tape.addFour(a);
        tape.addFour(b);
        tape.addFour(c);
        tape.addFour(d);
        tape.addFour(e);
        return tape.length;
    }

    public int end(int n) {
        if (n < 0 || n > tape.length) {
            return NONE;
        }
        tape.length = n;
        return n;
    }

    public int row() {
        if (tape.length == 0) {
            return answer(BAD_TEXT);
        }
        int came = 0;
        int lost = 0;
        for (int i = 0; i < tape.length; i += 3) {
            if (i + 2 < tape.length && now.floor.add(tape.bytes[i], tape.bytes[i + 1], tape.bytes[i + 2]) >= 0) {
                came++;
            } else {
                lost++;
            }
        }
        fluff = lost;
        tape.length = 0;
        past.clear();
        return answer(came);
    }

    public int fluff() {
        return fluff;
    }

    public int law() {
        if (now.laws >= MOST_LAWS) {
            tape.length = 0;
            return answer(NO_ROOM);
        }
        fault = reader.read(tape, now.law[now.laws], false);
        tape.length = 0;
        if (fault != NONE) {
            return answer(BAD_TEXT);
        }
        now.laws++;
        return answer(now.laws - 1);
    }

    public int orders() {
        stopped = NONE;
        fault = reader.read(tape, errand, true);
        tape.length = 0;
        if (fault != NONE) {
            return answer(BAD_TEXT);
        }
        past.save(now.floor);
        clerk.words[Reader.DONE] = 0;
        clerk.words[Reader.LATEST] = NONE;
        for (int clause = 0; clause < errand.clauses; clause++) {
            int times = errand.mark(clause, Text.TIMES);
            for (int i = 0; i < times; i++) {
                if (!runOnce(clause)) {
                    past.restore(now.floor);
                    stopped = clause;
                    return answer(CANT_BE);
                }
            }
        }
        return answer(clerk.words[Reader.DONE]);
    }

    public int fault() {
        return fault;
    }

    public int stopped() {
        return stopped;
    }

    public int force(int law) {
        if (law != NONE && now.lawOf(law) == null) {
            return answer(NO_SUCH);
        }
        int was = now.forced;
        now.forced = law;
        // NONE is an answer here, not a refusal, so it doesn't go through answer().
        status = 0;
        return was;
    }

    // ---- deeds

    public int lay(int carpet, int x, int y) {
        return answer(doLay(carpet, x, y));
    }

    public int roll(int carpet) {
        return answer(doRoll(carpet));
    }

    public int mirror() {
        return answer(doMirror());
    }

    public int pass() {
        return answer(doPass());
    }

    public int undo() {
        return answer(past.takeBack(now.floor));
    }

    // ---- what is bare and how it could be filled

    public int bare(int what) {
        Floor floor = now.floor;
        if (what == 0) {
            return floor.bareCells();
        }
        int cell = floor.firstBareCell();
        if (cell == NONE) {
            return NONE;
        }
        return what == 1 ? cell % GRID : what == 2 ? cell / GRID : NONE;
    }

    public int fill(int i) {
        search.prepare(now.floor, now.forcedLaw(), judge);
        if (search.number(1) == 0) {
            return NONE;
        }
        return i == NONE ? search.rowLength() : search.rowCarpet(i);
    }

    public int ways() {
        search.prepare(now.floor, now.forcedLaw(), judge);
        return search.number(ALL_ROWS);
    }

    public int cheapest() {
        search.prepare(now.floor, now.forcedLaw(), judge);
        return search.leastCost();
    }

    public int halls(int i) {
        if (i < NONE) {
            return NONE;
        }
        int area = now.floor.areaWithoutRags();
        int found = 0;
        for (int wide = 1; wide <= GRID && area > 0; wide++) {
            int high = area / wide;
            if (high > GRID || high * wide != area) {
                continue;
            }
            sheet.copyFrom(now.floor);
            sheet.emptyInto(wide, high);
            search.prepare(sheet, now.forcedLaw(), judge);
            if (search.number(1) == 0) {
                continue;
            }
            if (found == i) {
                return 100 * wide + high;
            }
            found++;
        }
        return i == NONE ? found : NONE;
    }

    public int inner() {
        return now.floor.innerHalls();
    }

    public int crosses() {
        return now.floor.crossPoints();
    }

    public int currents(int y, int what) {
        if (y < 0 || y > now.floor.high || what < 0 || what > 1) {
            return NONE;
        }
        return now.floor.sidesAtLine(y, what == 1);
    }

    public int fitting(int side) {
        return side < 1 || side > GRID ? NONE : now.floor.placesFor(side);
    }

    public int alike() {
        return now.floor.twosOfOneSide();
    }

    public int free() {
        int bits = 0;
        for (int c = 0; c < now.floor.carpets; c++) {
            if (!now.floor.isLaid(c)) {
                continue;
            }
            sheet.copyFrom(now.floor);
            sheet.rollUp(c);
            search.prepare(sheet, now.forcedLaw(), judge);
            if (search.number(2) == 1 && !search.fillsAlone(c)) {
                bits |= 1 << c;
            }
        }
        return bits;
    }

    // ---- what was seen

    public int seen(int x, int y, int side) {
        if (!onGrid(x) || !onGrid(y) || side < 1 || side > GRID) {
            return answer(BAD_NUMBER);
        }
        if (now.seen >= MOST_SEEN) {
            return answer(NO_ROOM);
        }
        now.seenX[now.seen] = x;
        now.seenY[now.seen] = y;
        now.seenSide[now.seen] = side;
        now.seen++;
        return answer(now.seen);
    }

    public int forget() {
        int was = now.seen;
        now.seen = 0;
        return was;
    }

    public int floors() {
        search.prepare(now.floor, now.forcedLaw(), judge);
        return search.heed(now) ? search.number(ALL_ROWS) : 0;
    }

    public int look(int what) {
        if (what < 0 || what > 2 || now.floor.bareCells() == 0) {
            return NONE;
        }
        search.prepare(now.floor, now.forcedLaw(), judge);
        if (!search.heed(now) || search.number(ALL_ROWS) == 0) {
            return NONE;
        }
        search.tallyFills();
        int cell = search.bestLook();
        return what == 0 ? cell % GRID : what == 1 ? cell / GRID : search.mostAt(cell);
    }

    // ---- chances, laws compared, years on paper

    public long few(int k, int n) {
        if (k < 1 || k > Chance.MOST_K || n < 0 || n > Chance.MOST_N) {
            return NONE;
        }
        return chance.fewer(k, n, now.floor.terms[MOTHS]);
    }

    public int compare(int law) {
        Text other = now.lawOf(law);
        if (law != NONE && other == null) {
            return NONE;
        }
        search.prepare(now.floor, other, judge);
        return search.leastCost();
    }

    public int years(int seed, int n) {
        if (seed < 0 || seed > 1000000 || n < 1 || n > 60) {
            return answer(BAD_NUMBER);
        }
        if (now.floor.carpets == 0) {
            return answer(CANT_BE);
        }
        paper.copyFrom(now.floor);
        int s = seed;
        for (int i = 0; i < n && paper.terms[YEAR] < LAST_YEAR; i++) {
            s = drawYear(s);
        }
        return answer(paper.bareCells());
    }

    public int drawn(int carpet, int what) {
        if (!paper.has(carpet)) {
            return NONE;
        }
        switch (what) {
            case 0: return paper.pile[carpet];
            case 1: return paper.x[carpet];
            case 2: return paper.y[carpet];
            default: return NONE;
        }
    }

    // ---- images, counts

    public int image(int k) {
        if (k < 0 || k >= IMAGES) {
            return answer(BAD_NUMBER);
        }
        images[k].copyFrom(now);
        kept[k] = true;
        return answer(0);
    }

    public int back(int k) {
        if (k < 0 || k >= IMAGES) {
            return answer(BAD_NUMBER);
        }
        if (!kept[k]) {
            return answer(NO_SUCH);
        }
        now.copyFrom(images[k]);
        past.clear();
        return answer(0);
    }

    public int count(int what) {
        Floor floor = now.floor;
        switch (what) {
            case 0: return floor.carpets;
            case 1: return floor.laidCarpets();
            case 2: return floor.rags();
            case 3: return floor.paid;
            case 4: return now.seen;
            case 5: return now.laws;
            case 6: return past.size;
            case 7: return tape.length;
            case 8: case 9: case 10: case 11: case 12: return refused[what - 8];
            case 13: return now.forced;
            case 14: case 15: case 16: return floor.terms[what - 14];
            case 17: return floor.wide;
            case 18: return floor.high;
            default: return NONE;
        }
    }

    public int status() {
        return status;
    }

    // ---- what the face shares

    private static boolean onGrid(int v) {
        return v >= 0 && v < GRID;
    }

    private static int mostOfTerm(int what) {
        return what == YEAR ? LAST_YEAR : what == MOTHS ? MOST_MOTHS : MOST_MOOD;
    }

    /** Every answer below 0 that comes through here is a refusal, and is counted as one. */
    private int answer(int told) {
        status = told < 0 ? told : 0;
        switch (told) {
            case BAD_NUMBER: refused[0]++; break;
            case NO_SUCH: refused[1]++; break;
            case CANT_BE: refused[2]++; break;
            case NO_ROOM: refused[3]++; break;
            case BAD_TEXT: refused[4]++; break;
            default: break;
        }
        return told;
    }

    private boolean canLie(Floor floor, int carpet, int x, int y) {
        return floor.hasPlaceFor(carpet, x, y) && !judge.isBarred(now.forcedLaw(), floor, carpet, x, y);
    }

    private int doLay(int carpet, int x, int y) {
        Floor floor = now.floor;
        if (!onGrid(x) || !onGrid(y)) {
            return BAD_NUMBER;
        }
        if (!floor.has(carpet)) {
            return NO_SUCH;
        }
        if (!canLie(floor, carpet, x, y)) {
            return CANT_BE;
        }
        int cost = judge.costOf(now.forcedLaw(), floor, carpet, x, y);
        past.note(LAY, floor);
        floor.x[carpet] = x;
        floor.y[carpet] = y;
        floor.paid = Math.min(MOST_PAID, floor.paid + cost);
        return cost;
    }

    private int doRoll(int carpet) {
        Floor floor = now.floor;
        if (!floor.has(carpet)) {
            return NO_SUCH;
        }
        if (!floor.isLaid(carpet)) {
            return CANT_BE;
        }
        past.note(ROLL, floor);
        floor.rollUp(carpet);
        return floor.bareCells();
    }

    private int doMirror() {
        past.note(MIRROR, now.floor);
        return now.floor.turnOver();
    }

    private int doPass() {
        if (now.floor.terms[YEAR] >= LAST_YEAR) {
            return CANT_BE;
        }
        past.note(PASS, now.floor);
        return now.floor.wearAYear(judge, now.forcedLaw());
    }

    /** Whether ORDERS can go on behind it; a clause whose "if" is not so can be passed over. */
    private boolean runOnce(int clause) {
        clerk.setOrderWords(now.floor);
        if (!clerk.isSo(errand, clause)) {
            return true;
        }
        if (!clerk.reckonSums(errand, clause)) {
            return false;
        }
        int told;
        switch (errand.mark(clause, Text.KIND)) {
            case LAY:
                told = doLay(clerk.sums[0], clerk.sums[1], clerk.sums[2]);
                clerk.words[Reader.LATEST] = told;
                break;
            case ROLL:
                told = doRoll(clerk.sums[0]);
                break;
            case MIRROR:
                told = doMirror();
                break;
            default:
                told = doPass();
                break;
        }
        clerk.words[Reader.DONE]++;
        return told >= 0;
    }

    private static int nextDraw(int s) {
        return (s * 1103 + 12345) % 1000003;
    }

    /** One of the YEARS on paper; answers s as its draws leave it. */
    private int drawYear(int s) {
        int first = nextDraw(s);
        int second = nextDraw(first);
        int third = nextDraw(second);
        int last = nextDraw(third);
        int carpet = paper.carpets > 0 ? first % paper.carpets : 0;
        int x = paper.wide > 0 ? second % paper.wide : 0;
        int y = paper.high > 0 ? third % paper.high : 0;
        if (last % 3 == 2) {
            paper.rollUp(carpet);
        } else if (canLie(paper, carpet, x, y)) {
            paper.x[carpet] = x;
            paper.y[carpet] = y;
        }
        paper.wearAYear(judge, now.forcedLaw());
        return last;
    }

    /** The hall with its carpets, its terms and what was paid. */
    static final class Floor {
        final int[] side = new int[MOST_CARPETS];
        final int[] kind = new int[MOST_CARPETS];
        final int[] pile = new int[MOST_CARPETS];
        /** NONE in both: rolled. */
        final int[] x = new int[MOST_CARPETS];
        final int[] y = new int[MOST_CARPETS];
        final int[] terms = new int[TERMS];
        /** Of each row the covered cells as bits, as the latest drawRows() found them. */
        final int[] rows = new int[GRID];
        int carpets = 0;
        int wide = 8;
        int high = 8;
        int paid = 0;

        Floor() {
            terms[MOTHS] = 1;
        }

        void copyFrom(Floor other) {
            System.arraycopy(other.side, 0, side, 0, MOST_CARPETS);
            System.arraycopy(other.kind, 0, kind, 0, MOST_CARPETS);
            System.arraycopy(other.pile, 0, pile, 0, MOST_CARPETS);
            System.arraycopy(other.x, 0, x, 0, MOST_CARPETS);
            System.arraycopy(other.y, 0, y, 0, MOST_CARPETS);
            System.arraycopy(other.terms, 0, terms, 0, TERMS);
            carpets = other.carpets;
            wide = other.wide;
            high = other.high;
            paid = other.paid;
        }

        /** The new carpet's number, or what it is refused by. */
        int add(int itsSide, int itsKind, int itsPile) {
            if (itsSide < 1 || itsSide > GRID || itsKind < 0 || itsKind > MOST_KIND
                    || itsPile < 0 || itsPile > MOST_PILE) {
                return BAD_NUMBER;
            }
            if (carpets >= MOST_CARPETS) {
                return NO_ROOM;
            }
            side[carpets] = itsSide;
            kind[carpets] = itsKind;
            pile[carpets] = itsPile;
            x[carpets] = NONE;
            y[carpets] = NONE;
            carpets++;
            return carpets - 1;
        }

        boolean has(int c) {
            return c >= 0 && c < carpets;
        }

        boolean isLaid(int c) {
            return has(c) && x[c] != NONE;
        }

        boolean isReady(int c) {
            return has(c) && x[c] == NONE && pile[c] > 0;
        }

        int laidCarpets() {
            int laid = 0;
            for (int c = 0; c < carpets; c++) {
                laid += isLaid(c) ? 1 : 0;
            }
            return laid;
        }

        int rags() {
            int rags = 0;
            for (int c = 0; c < carpets; c++) {
                rags += pile[c] == 0 ? 1 : 0;
            }
            return rags;
        }

        int areaWithoutRags() {
            int area = 0;
            for (int c = 0; c < carpets; c++) {
                area += pile[c] > 0 ? side[c] * side[c] : 0;
            }
            return area;
        }

        int bareCells() {
            int cells = wide * high;
            for (int c = 0; c < carpets; c++) {
                cells -= isLaid(c) ? side[c] * side[c] : 0;
            }
            return cells;
        }

        int carpetOn(int px, int py) {
            for (int c = 0; c < carpets; c++) {
                if (isLaid(c) && px >= x[c] && px < x[c] + side[c] && py >= y[c] && py < y[c] + side[c]) {
                    return c;
                }
            }
            return NONE;
        }

        /** Whether it is rolled, no RAGS, and the cells it would cover are in the hall and bare. */
        boolean hasPlaceFor(int c, int px, int py) {
            if (!isReady(c) || px < 0 || py < 0 || px > wide - side[c] || py > high - side[c]) {
                return false;
            }
            for (int other = 0; other < carpets; other++) {
                if (isLaid(other) && px < x[other] + side[other] && x[other] < px + side[c]
                        && py < y[other] + side[other] && y[other] < py + side[c]) {
                    return false;
                }
            }
            return true;
        }

        void rollUp(int c) {
            if (has(c)) {
                x[c] = NONE;
                y[c] = NONE;
            }
        }

        void emptyInto(int newWide, int newHigh) {
            for (int c = 0; c < carpets; c++) {
                rollUp(c);
            }
            wide = newWide;
            high = newHigh;
        }

        /** The hall mirrored; how many carpets are laid. */
        int turnOver() {
            int laid = 0;
            for (int c = 0; c < carpets; c++) {
                if (isLaid(c)) {
                    x[c] = wide - x[c] - side[c];
                    laid++;
                }
            }
            return laid;
        }

        /** How many are rags by it. A carpet's wear asks its own pile alone, so each may lose at once. */
        int wearAYear(Judge judge, Text law) {
            int worn = 0;
            for (int c = 0; c < carpets; c++) {
                if (!isLaid(c)) {
                    continue;
                }
                pile[c] = Math.max(0, pile[c] - judge.wearOf(law, this, c));
                if (pile[c] == 0) {
                    rollUp(c);
                    worn++;
                }
            }
            terms[YEAR]++;
            return worn;
        }

        void drawRows() {
            Arrays.fill(rows, 0);
            for (int c = 0; c < carpets; c++) {
                if (!isLaid(c)) {
                    continue;
                }
                int bits = (1 << side[c]) - 1 << x[c];
                for (int r = y[c]; r < y[c] + side[c] && r < GRID; r++) {
                    rows[r] |= bits;
                }
            }
        }

        /** As y times GRID and x. */
        int firstBareCell() {
            drawRows();
            for (int cell = 0; cell < CELLS; cell++) {
                int px = cell % GRID;
                int py = cell / GRID;
                if (px < wide && py < high && (rows[py] >> px & 1) == 0) {
                    return cell;
                }
            }
            return NONE;
        }

        int placesFor(int ofSide) {
            drawRows();
            int square = (1 << ofSide) - 1;
            int places = 0;
            for (int r = 0; r + ofSide <= high; r++) {
                int covered = 0;
                for (int i = r; i < r + ofSide && i < GRID; i++) {
                    covered |= rows[i];
                }
                for (int left = 0; left + ofSide <= wide; left++) {
                    places += (covered >> left & square) == 0 ? 1 : 0;
                }
            }
            return places;
        }

        /** Carpets never overlap, so a set of them covers a rectangle just if it has its bounds' area. */
        int innerHalls() {
            int found = 0;
            for (int set = 0; set < 1 << carpets; set++) {
                if (Integer.bitCount(set) >= 2 && isInnerHall(set)) {
                    found++;
                }
            }
            return found;
        }

        private boolean isInnerHall(int set) {
            int left = GRID;
            int right = 0;
            int low = GRID;
            int top = 0;
            int area = 0;
            for (int c = 0; c < carpets; c++) {
                if ((set >> c & 1) == 0) {
                    continue;
                }
                if (!isLaid(c)) {
                    return false;
                }
                left = Math.min(left, x[c]);
                right = Math.max(right, x[c] + side[c]);
                low = Math.min(low, y[c]);
                top = Math.max(top, y[c] + side[c]);
                area += side[c] * side[c];
            }
            return (right - left) * (top - low) == area && area < wide * high;
        }

        /** A point at which four meet is the upper right corner of just one carpet: that one is counted. */
        int crossPoints() {
            int found = 0;
            for (int c = 0; c < carpets; c++) {
                if (isLaid(c) && threeMoreMeetAt(x[c] + side[c], y[c] + side[c])) {
                    found++;
                }
            }
            return found;
        }

        private boolean threeMoreMeetAt(int px, int py) {
            int met = 0;
            for (int c = 0; c < carpets; c++) {
                if (!isLaid(c)) {
                    continue;
                }
                boolean begins = x[c] == px;
                boolean ends = x[c] + side[c] == px;
                boolean above = y[c] == py;
                boolean below = y[c] + side[c] == py;
                met += begins && above || begins && below || ends && above ? 1 : 0;
            }
            return met == 3;
        }

        int sidesAtLine(int line, boolean upper) {
            int sum = 0;
            for (int c = 0; c < carpets; c++) {
                if (isLaid(c) && y[c] + (upper ? side[c] : 0) == line) {
                    sum += side[c];
                }
            }
            return sum;
        }

        int twosOfOneSide() {
            int twos = 0;
            for (int a = 0; a < carpets; a++) {
                for (int b = a + 1; b < carpets; b++) {
                    twos += isLaid(a) && isLaid(b) && side[a] == side[b] ? 1 : 0;
                }
            }
            return twos;
        }
    }

    /** All that an image keeps. */
    static final class Stand {
        final Floor floor = new Floor();
        final Text[] law = new Text[MOST_LAWS];
        final int[] seenX = new int[MOST_SEEN];
        final int[] seenY = new int[MOST_SEEN];
        final int[] seenSide = new int[MOST_SEEN];
        int laws = 0;
        int forced = NONE;
        int seen = 0;

        Stand() {
            for (int i = 0; i < MOST_LAWS; i++) {
                law[i] = new Text();
            }
        }

        Text lawOf(int number) {
            return number >= 0 && number < laws ? law[number] : null;
        }

        Text forcedLaw() {
            return lawOf(forced);
        }

        void copyFrom(Stand other) {
            floor.copyFrom(other.floor);
            for (int i = 0; i < other.laws; i++) {
                law[i].copyFrom(other.law[i]);
            }
            System.arraycopy(other.seenX, 0, seenX, 0, MOST_SEEN);
            System.arraycopy(other.seenY, 0, seenY, 0, MOST_SEEN);
            System.arraycopy(other.seenSide, 0, seenSide, 0, MOST_SEEN);
            laws = other.laws;
            forced = other.forced;
            seen = other.seen;
        }
    }

    /** The bytes that were fed, each 0 to 255. */
    static final class Tape {
        final int[] bytes = new int[LONGEST_TAPE];
        int length = 0;

        void addFour(int number) {
            for (int shift = 24; shift >= 0 && length < LONGEST_TAPE; shift -= 8) {
                bytes[length] = number >>> shift & 255;
                length++;
            }
        }
    }

    /** A law or orders as they were read: sums and tests in the order in which they are reckoned, and clauses. */
    static final class Text {
        /** A clause's marks: what it is, how often it runs, where its sums' code and its test's lie. */
        static final int KIND = 0;
        static final int TIMES = 1;
        static final int SUMS = 2;
        static final int MOST_SUMS = 3;
        static final int TEST = SUMS + MOST_SUMS + 1;
        static final int TEST_END = TEST + 1;
        static final int MARKS = TEST_END + 1;

        /** Codes up to WORD are numbers, up to ADD words. */
        static final int WORD = 2000;
        static final int ADD = 3000;
        static final int SUBTRACT = 3001;
        static final int MULTIPLY = 3002;
        static final int DIVIDE = 3003;
        static final int LEFT_OVER = 3004;
        static final int LESS = 3005;
        static final int MORE = 3006;
        static final int SAME = 3007;
        static final int NOT = 3008;
        /** These two have the place to go on at behind them, if what follows can't matter any more. */
        static final int AND = 3009;
        static final int OR = 3010;

        /** No token gives more codes than it has bytes. */
        final int[] code = new int[LONGEST_TAPE];
        final int[] marks = new int[MOST_CLAUSES * MARKS];
        int size = 0;
        int clauses = 0;

        void clear() {
            size = 0;
            clauses = 0;
        }

        void copyFrom(Text other) {
            System.arraycopy(other.code, 0, code, 0, other.size);
            System.arraycopy(other.marks, 0, marks, 0, other.clauses * MARKS);
            size = other.size;
            clauses = other.clauses;
        }

        /** NONE is no code. */
        void add(int one) {
            if (one != NONE && size < code.length) {
                code[size] = one;
                size++;
            }
        }

        /** AND or OR with the place to go on at still to be set: where that stands. */
        int addJump(int one) {
            add(one);
            add(0);
            return size - 1;
        }

        void setCode(int place, int one) {
            if (place >= 0 && place < size) {
                code[place] = one;
            }
        }

        void openClause(int kind) {
            if (clauses >= MOST_CLAUSES) {
                return;
            }
            clauses++;
            setMark(KIND, kind);
            setMark(TIMES, 1);
        }

        /** Of the clause that was opened last. */
        void setMark(int which, int value) {
            int place = (clauses - 1) * MARKS + which;
            if (place >= 0 && place < marks.length) {
                marks[place] = value;
            }
        }

        int mark(int clause, int which) {
            int place = clause * MARKS + which;
            return place >= 0 && place < marks.length ? marks[place] : 0;
        }
    }

    /** Reads a tape as a law or as orders. */
    static final class Reader {
        static final int COSTS = 0;
        static final int WEARS = 1;
        static final int BARS = 2;

        /** Places of the words of orders; each of the last two has a place for each carpet. */
        static final int THIS_YEAR = 0;
        static final int DONE = 1;
        static final int LATEST = 2;
        static final int BARE = 3;
        static final int PAID = 4;
        static final int PILE_OF = 5;
        static final int LAID_OF = PILE_OF + MOST_CARPETS;
        static final int ORDER_WORDS = LAID_OF + MOST_CARPETS;

        private static final int MOST_PARTS = 50;
        private static final int MOST_BRACKETS = 8;
        private static final int MOST_NUMBER = 1000;
        private static final int MOST_TIMES = 20;

        /** Tokens: a sign is its byte, the words stand here, a number is NUMBER and its value. */
        private static final int AT_END = -1;
        private static final int NO_WORD = 300;
        private static final int FIRST_OF_LAW = 301;
        private static final int FIRST_OF_ORDER = 304;
        private static final int IF = 308;
        private static final int TIMES = 309;
        private static final int AT = 310;
        private static final int BY = 311;
        private static final int OR = 312;
        private static final int AND = 313;
        private static final int NOT = 314;
        private static final int CARPET_WORD = 315;
        private static final int PILE_WORD = 318;
        private static final int YEAR_WORD = 321;
        private static final int MOOD_WORD = 322;
        private static final int DONE_WORD = 323;
        private static final int PAID_WORD = 326;
        private static final int LAID_WORD = 327;
        private static final int NUMBER = 400;

        private final int[] tokens = new int[LONGEST_TAPE + 1];
        private final int[] places = new int[LONGEST_TAPE + 1];
        private Tape tape;
        private Text text;
        private boolean ofOrders;
        private int at;
        private int parts;
        private int brackets;
        private int fault;

        /** Where the FAULT is, or NONE. */
        int read(Tape from, Text into, boolean asOrders) {
            tape = from;
            text = into;
            ofOrders = asOrders;
            at = 0;
            parts = 0;
            brackets = 0;
            fault = NONE;
            text.clear();
            scan();
            for (int n = 0; n < MOST_CLAUSES && fault == NONE; n++) {
                readClause();
                if (!take(';')) {
                    if (tokens[at] != AT_END) {
                        fail();
                    }
                    return fault;
                }
            }
            fail();
            return fault;
        }

        // ---- tokens

        private void scan() {
            int found = 0;
            int from = 0;
            for (int n = 0; n < LONGEST_TAPE && from < tape.length; n++) {
                int one = tape.bytes[from];
                int to = from + 1;
                if (one != ' ') {
                    places[found] = from;
                    if (isLetter(one)) {
                        to = endOfLetters(to);
                        tokens[found] = wordFrom(from, to);
                    } else if (isDigit(one)) {
                        to = endOfDigits(to);
                        tokens[found] = NUMBER + valueFrom(from, to);
                    } else {
                        tokens[found] = one;
                    }
                    found++;
                }
                from = to;
            }
            tokens[found] = AT_END;
            places[found] = tape.length;
        }

        private static boolean isLetter(int one) {
            return one >= 'a' && one <= 'z';
        }

        private static boolean isDigit(int one) {
            return one >= '0' && one <= '9';
        }

        private int endOfLetters(int from) {
            int to = from;
            while (to < tape.length && isLetter(tape.bytes[to])) {
                to++;
            }
            return to;
        }

        private int endOfDigits(int from) {
            int to = from;
            while (to < tape.length && isDigit(tape.bytes[to])) {
                to++;
            }
            return to;
        }

        /** Any number that is too large counts as the smallest such. */
        private int valueFrom(int from, int to) {
            int value = 0;
            for (int i = from; i < to; i++) {
                value = Math.min(value * 10 + tape.bytes[i] - '0', MOST_NUMBER + 1);
            }
            return value;
        }

        private int wordFrom(int from, int to) {
            return is("costs", from, to) ? FIRST_OF_LAW : is("wears", from, to) ? FIRST_OF_LAW + 1
                    : is("bars", from, to) ? FIRST_OF_LAW + 2 : is("lay", from, to) ? FIRST_OF_ORDER
                    : is("roll", from, to) ? FIRST_OF_ORDER + 1 : is("mirror", from, to) ? FIRST_OF_ORDER + 2
                    : is("pass", from, to) ? FIRST_OF_ORDER + 3 : is("if", from, to) ? IF
                    : is("times", from, to) ? TIMES : is("at", from, to) ? AT : is("by", from, to) ? BY
                    : is("or", from, to) ? OR : is("and", from, to) ? AND : is("not", from, to) ? NOT
                    : is("carpet", from, to) ? CARPET_WORD : is("side", from, to) ? CARPET_WORD + 1
                    : is("kind", from, to) ? CARPET_WORD + 2 : is("pile", from, to) ? PILE_WORD
                    : is("x", from, to) ? PILE_WORD + 1 : is("y", from, to) ? PILE_WORD + 2
                    : is("year", from, to) ? YEAR_WORD : is("mood", from, to) ? MOOD_WORD
                    : is("done", from, to) ? DONE_WORD : is("latest", from, to) ? DONE_WORD + 1
                    : is("bare", from, to) ? DONE_WORD + 2 : is("paid", from, to) ? PAID_WORD
                    : is("laid", from, to) ? LAID_WORD : NO_WORD;
        }

        private boolean is(String word, int from, int to) {
            if (to - from != word.length()) {
                return false;
            }
            for (int i = from; i < to; i++) {
                if (tape.bytes[i] != word.charAt(i - from)) {
                    return false;
                }
            }
            return true;
        }

        /** The first fault stays; behind it no token is taken any more, so that reading ends. */
        private void fail() {
            if (fault == NONE) {
                fault = places[at];
            }
        }

        private boolean take(int token) {
            if (fault != NONE || tokens[at] != token) {
                return false;
            }
            at++;
            return true;
        }

        /** The token there, or none of any sort behind a fault. */
        private int seenToken() {
            return fault == NONE ? tokens[at] : AT_END;
        }

        /** The number there, or NONE, if it is none from least to most: then nothing is taken. */
        private int takeNumber(int least, int most) {
            int value = tokens[at] - NUMBER;
            if (fault != NONE || value < least || value > most) {
                return NONE;
            }
            at++;
            return value;
        }

        // ---- clauses

        private void readClause() {
            int kind = tokens[at] - (ofOrders ? FIRST_OF_ORDER : FIRST_OF_LAW);
            if (kind < 0 || kind > (ofOrders ? PASS : BARS)) {
                fail();
                return;
            }
            at++;
            text.openClause(kind);
            readSums(ofOrders ? (kind == LAY ? 3 : kind == ROLL ? 1 : 0) : (kind == BARS ? 0 : 1));
            if (ofOrders && take(TIMES)) {
                int times = takeNumber(1, MOST_TIMES);
                text.setMark(Text.TIMES, times);
                if (times == NONE) {
                    fail();
                }
            }
            text.setMark(Text.TEST, text.size);
            if (take(IF)) {
                readTest();
            }
            text.setMark(Text.TEST_END, text.size);
        }

        /** Those that a clause has not end where they begin. */
        private void readSums(int sums) {
            text.setMark(Text.SUMS, text.size);
            for (int i = 0; i < Text.MOST_SUMS; i++) {
                if (i > 0 && i < sums && !take(i == 1 ? AT : BY)) {
                    fail();
                }
                if (i < sums) {
                    readSum();
                }
                text.setMark(Text.SUMS + 1 + i, text.size);
            }
        }

        // ---- tests and sums: the recursion is as deep as brackets are, which is 8 at most

        /** An "or" can be gone past to where the next "or" stands, an "and" to what stands behind its one test. */
        private void readTest() {
            readPlain();
            int openOr = NONE;
            for (int n = 0; n < LONGEST_TAPE && (seenToken() == OR || seenToken() == AND); n++) {
                boolean isOr = take(OR);
                if (isOr) {
                    text.setCode(openOr, text.size);
                    openOr = text.addJump(Text.OR);
                    readPlain();
                } else {
                    at++;
                    int openAnd = text.addJump(Text.AND);
                    readPlain();
                    text.setCode(openAnd, text.size);
                }
            }
            text.setCode(openOr, text.size);
        }

        private void readPlain() {
            boolean turned = false;
            // Two "not"s take each other away, also where the test is BROKEN: no level for each.
            for (int n = 0; n < LONGEST_TAPE && take(NOT); n++) {
                turned = !turned;
            }
            if (seenToken() == '(') {
                if (openBracket()) {
                    readTest();
                    brackets--;
                }
                if (!take(')')) {
                    fail();
                }
            } else {
                readSum();
                int code = take('<') ? Text.LESS : take('>') ? Text.MORE : take('=') ? Text.SAME : NONE;
                if (code == NONE) {
                    fail();
                    return;
                }
                readSum();
                text.add(code);
            }
            if (turned) {
                text.add(Text.NOT);
            }
        }

        /** Whether one more may be open; if not, it is not taken, and so it is the FAULT. */
        private boolean openBracket() {
            if (brackets >= MOST_BRACKETS) {
                return false;
            }
            brackets++;
            at++;
            return true;
        }

        /** A "+" or "-" is reckoned once the term behind it is whole: at the next of them, or at the end. */
        private void readSum() {
            readPart();
            int openCode = NONE;
            for (int n = 0; n < LONGEST_TAPE; n++) {
                int code = codeOf(seenToken());
                if (code == NONE) {
                    break;
                }
                at++;
                if (code == Text.ADD || code == Text.SUBTRACT) {
                    text.add(openCode);
                    openCode = code;
                    readPart();
                } else {
                    readPart();
                    text.add(code);
                }
            }
            text.add(openCode);
        }

        private static int codeOf(int token) {
            switch (token) {
                case '+': return Text.ADD;
                case '-': return Text.SUBTRACT;
                case '*': return Text.MULTIPLY;
                case '/': return Text.DIVIDE;
                case '%': return Text.LEFT_OVER;
                default: return NONE;
            }
        }

        private void readPart() {
            int token = seenToken();
            if (token == '[') {
                if (openBracket()) {
                    readSum();
                    brackets--;
                }
                if (!take(']')) {
                    fail();
                }
                return;
            }
            if (parts >= MOST_PARTS) {
                fail();
                return;
            }
            parts++;
            int code = token >= NUMBER ? takeNumber(0, MOST_NUMBER) : ofOrders ? orderCode(token) : lawCode(token);
            at += code != NONE && token < NUMBER ? 1 : 0;
            if (ofOrders && (token == PILE_WORD || token == LAID_WORD)) {
                int carpet = takeNumber(0, MOST_CARPETS - 1);
                code = carpet == NONE ? NONE : code + carpet;
            }
            if (code == NONE) {
                fail();
            }
            text.add(code);
        }

        /** A word's code, or NONE; the last two of orders have a code for each carpet, of which this is the first. */
        private static int orderCode(int token) {
            if (token >= DONE_WORD && token <= PAID_WORD) {
                return Text.WORD + DONE + token - DONE_WORD;
            }
            return token == YEAR_WORD ? Text.WORD + THIS_YEAR : token == PILE_WORD ? Text.WORD + PILE_OF
                    : token == LAID_WORD ? Text.WORD + LAID_OF : NONE;
        }

        private static int lawCode(int token) {
            return token >= CARPET_WORD && token <= MOOD_WORD ? Text.WORD + token - CARPET_WORD : NONE;
        }
    }

    /** Reckons sums and tests; what the words stand for is set ahead. */
    static final class Reckoner {
        private static final long FARTHEST = 1000000000L;

        /** Eight brackets with a sum, a term and a comparison open in each need far less. */
        private final long[] stack = new long[64];
        final int[] words = new int[Reader.ORDER_WORDS];
        /** Of the clause whose sums were reckoned last. */
        final int[] sums = new int[Text.MOST_SUMS];
        /** Whether the latest sum or test was BROKEN. */
        boolean broken = false;

        void setLawWords(Floor floor, int carpet, int x, int y) {
            words[0] = carpet;
            words[1] = floor.side[carpet];
            words[2] = floor.kind[carpet];
            words[3] = floor.pile[carpet];
            words[4] = x;
            words[5] = y;
            words[6] = floor.terms[YEAR];
            words[7] = floor.terms[MOOD];
        }

        /** DONE and LATEST stay: who runs the orders keeps them here. */
        void setOrderWords(Floor floor) {
            words[Reader.THIS_YEAR] = floor.terms[YEAR];
            words[Reader.BARE] = floor.bareCells();
            words[Reader.PAID] = floor.paid;
            for (int c = 0; c < MOST_CARPETS; c++) {
                words[Reader.PILE_OF + c] = floor.has(c) ? floor.pile[c] : NONE;
                words[Reader.LAID_OF + c] = !floor.has(c) ? NONE : floor.isLaid(c) ? 1 : 0;
            }
        }

        /** Without an "if" it is so. */
        boolean isSo(Text text, int clause) {
            int from = text.mark(clause, Text.TEST);
            int to = text.mark(clause, Text.TEST_END);
            return from == to || reckon(text, from, to) != 0 && !broken;
        }

        /** A clause's sums from the left; whether none is BROKEN. */
        boolean reckonSums(Text text, int clause) {
            for (int i = 0; i < Text.MOST_SUMS; i++) {
                int from = text.mark(clause, Text.SUMS + i);
                int to = text.mark(clause, Text.SUMS + i + 1);
                sums[i] = from == to ? 0 : (int) reckon(text, from, to);
                if (from != to && broken) {
                    return false;
                }
            }
            return true;
        }

        /** Numbers and words pile up, all else makes one of those on top; none of them is beyond FARTHEST. */
        private long reckon(Text text, int from, int to) {
            int top = 0;
            broken = false;
            for (int i = from; i < to && i < text.size && !broken; i++) {
                int code = text.code[i];
                if (code < Text.ADD) {
                    int place = code - Text.WORD;
                    broken = top + 1 >= stack.length || place >= words.length;
                    if (!broken) {
                        stack[top] = place < 0 ? code : words[place];
                        top++;
                    }
                    continue;
                }
                if (top < 1 || top < 2 && code < Text.NOT) {
                    broken = true;
                    continue;
                }
                if (code == Text.AND || code == Text.OR) {
                    i++;
                    boolean isKnown = (stack[top - 1] != 0) == (code == Text.OR);
                    // Forward alone, so that the loop has its end.
                    if (isKnown && i < text.size && text.code[i] - 1 > i) {
                        i = text.code[i] - 1;
                    }
                    top -= isKnown ? 0 : 1;
                    continue;
                }
                top -= code < Text.NOT ? 1 : 0;
                long a = stack[top - 1];
                long b = stack[top];
                long made = 0;
                switch (code) {
                    case Text.ADD: made = a + b; break;
                    case Text.SUBTRACT: made = a - b; break;
                    case Text.MULTIPLY: made = a * b; break;
                    case Text.DIVIDE: made = b == 0 ? FARTHEST + 1 : a / b; break;
                    case Text.LEFT_OVER: made = b == 0 ? FARTHEST + 1 : a % b; break;
                    case Text.LESS: made = a < b ? 1 : 0; break;
                    case Text.MORE: made = a > b ? 1 : 0; break;
                    case Text.SAME: made = a == b ? 1 : 0; break;
                    default: made = 1 - a; break;
                }
                broken = made > FARTHEST || made < -FARTHEST;
                stack[top - 1] = made;
            }
            return stack[0];
        }
    }

    /** What a law says of a carpet at a cell; no law (null) has no clause. */
    static final class Judge {
        private static final int MOST_COST = 99;
        private static final int MOST_WEAR = 9;

        private final Reckoner reckoner = new Reckoner();

        int costOf(Text law, Floor floor, int carpet, int x, int y) {
            reckoner.setLawWords(floor, carpet, x, y);
            return holds(law, Reader.COSTS) ? Math.max(0, Math.min(MOST_COST, reckoner.sums[0])) : floor.side[carpet];
        }

        int wearOf(Text law, Floor floor, int carpet) {
            reckoner.setLawWords(floor, carpet, floor.x[carpet], floor.y[carpet]);
            return holds(law, Reader.WEARS) ? Math.max(0, Math.min(MOST_WEAR, reckoner.sums[0])) : 1;
        }

        boolean isBarred(Text law, Floor floor, int carpet, int x, int y) {
            reckoner.setLawWords(floor, carpet, x, y);
            return holds(law, Reader.BARS);
        }

        /** Whether a clause of that kind HOLDS; the reckoner has the last one's sum then. */
        private boolean holds(Text law, int kind) {
            for (int clause = law == null ? NONE : law.clauses - 1; clause >= 0; clause--) {
                if (law.mark(clause, Text.KIND) == kind && reckoner.isSo(law, clause)
                        && reckoner.reckonSums(law, clause)) {
                    return true;
                }
            }
            return false;
        }
    }

    /** What can be undone, and how all was ahead of orders that may not stand. */
    static final class Past {
        /** Of each: what was done; PAID, the YEAR, then x, y and PILE of the carpets, as they were ahead of it. */
        private static final int LONG = 3 + 3 * MOST_CARPETS;

        private final int[] steps = new int[MOST_UNDOS * LONG];
        private final int[] savedSteps = new int[MOST_UNDOS * LONG];
        private final Floor savedFloor = new Floor();
        private int savedSize = 0;
        int size = 0;

        void clear() {
            size = 0;
        }

        void note(int kind, Floor floor) {
            if (size >= MOST_UNDOS) {
                System.arraycopy(steps, LONG, steps, 0, (MOST_UNDOS - 1) * LONG);
                size = MOST_UNDOS - 1;
            }
            int base = size * LONG;
            steps[base] = kind;
            steps[base + 1] = floor.paid;
            steps[base + 2] = floor.terms[YEAR];
            System.arraycopy(floor.x, 0, steps, base + 3, MOST_CARPETS);
            System.arraycopy(floor.y, 0, steps, base + 3 + MOST_CARPETS, MOST_CARPETS);
            System.arraycopy(floor.pile, 0, steps, base + 3 + 2 * MOST_CARPETS, MOST_CARPETS);
            size++;
        }

        /** What was undone, or what that is refused by. */
        int takeBack(Floor floor) {
            if (size <= 0) {
                return CANT_BE;
            }
            size--;
            int base = size * LONG;
            floor.paid = steps[base + 1];
            floor.terms[YEAR] = steps[base + 2];
            System.arraycopy(steps, base + 3, floor.x, 0, MOST_CARPETS);
            System.arraycopy(steps, base + 3 + MOST_CARPETS, floor.y, 0, MOST_CARPETS);
            System.arraycopy(steps, base + 3 + 2 * MOST_CARPETS, floor.pile, 0, MOST_CARPETS);
            return steps[base];
        }

        void save(Floor floor) {
            savedFloor.copyFrom(floor);
            System.arraycopy(steps, 0, savedSteps, 0, steps.length);
            savedSize = size;
        }

        void restore(Floor floor) {
            floor.copyFrom(savedFloor);
            System.arraycopy(savedSteps, 0, steps, 0, steps.length);
            size = savedSize;
        }
    }

    /**
     * Answers that were found for keys. Kept in the order in which they came: behind the keys that they were
     * made of, so that the way back through them goes from each key to those that it leads to.
     */
    static final class Memo {
        private static final int FIRST_BITS = 10;
        private static final int MOST_BITS = 14;
        private static final int MORE_BITS = 2;
        private static final long EMPTY = -1L;

        private int bits = FIRST_BITS;
        private long[] keys = new long[1 << FIRST_BITS];
        private int[] values = new int[1 << FIRST_BITS];
        /** How many ways lead to a key: for who goes back through them. */
        private int[] flows = new int[1 << FIRST_BITS];
        private int[] order = new int[1 << FIRST_BITS - 1];
        int used = 0;
        boolean full = false;

        Memo() {
            Arrays.fill(keys, EMPTY);
        }

        void clear() {
            for (int i = 0; i < used; i++) {
                keys[order[i]] = EMPTY;
            }
            used = 0;
            full = false;
        }

        /** The slot that has the key, or the empty one where it would go: half of them are always empty. */
        private int slotFor(long key) {
            int slot = (int) (key * 0x9E3779B97F4A7C15L >>> 64 - bits);
            for (int i = 0; i < keys.length && keys[slot] != EMPTY && keys[slot] != key; i++) {
                slot = slot + 1 & keys.length - 1;
            }
            return slot;
        }

        /** The slot of a key, or NONE. */
        int find(long key) {
            int slot = slotFor(key);
            return keys[slot] == key ? slot : NONE;
        }

        void keep(long key, int value) {
            if (used >= order.length && bits < MOST_BITS) {
                grow();
            }
            if (used >= order.length) {
                full = true;
                return;
            }
            put(key, value, used);
            used++;
        }

        private void put(long key, int value, int place) {
            int slot = slotFor(key);
            keys[slot] = key;
            values[slot] = value;
            flows[slot] = 0;
            order[place] = slot;
        }

        /** Most searches are small, and rows that were made are never given back: so these start short. */
        private void grow() {
            long[] oldKeys = keys;
            int[] oldValues = values;
            int[] oldOrder = order;
            bits += MORE_BITS;
            keys = new long[1 << bits];
            values = new int[1 << bits];
            flows = new int[1 << bits];
            order = new int[1 << bits - 1];
            Arrays.fill(keys, EMPTY);
            for (int i = 0; i < used; i++) {
                put(oldKeys[oldOrder[i]], oldValues[oldOrder[i]], i);
            }
        }

        int slotOfNth(int n) {
            return n >= 0 && n < used ? order[n] : NONE;
        }

        long keyIn(int slot) {
            return slot >= 0 && slot < keys.length ? keys[slot] : EMPTY;
        }

        int valueIn(int slot) {
            return slot >= 0 && slot < values.length ? values[slot] : 0;
        }

        int flowIn(int slot) {
            return slot >= 0 && slot < flows.length ? flows[slot] : 0;
        }

        void addFlow(int slot, int more) {
            if (slot >= 0 && slot < flows.length) {
                flows[slot] += more;
            }
        }
    }

    /**
     * Fills on paper. A key tells how far one has come: the carpets used as bits from USED on, and for each column,
     * in four bits, up to where it was filled. Each carpet comes to the first bare cell, so all below that height
     * is covered, and two rows of carpets with one key can be gone on with in the same ways.
     */
    static final class Search {
        private static final int USED = 4 * GRID;
        private static final long ONE_IN_EACH_COLUMN = 0x111111111111L;

        private final Memo memo = new Memo();
        /** What a carpet costs at a cell (NONE: barred), and in which round that was asked. */
        private final int[] price = new int[MOST_CARPETS * CELLS];
        private final int[] asked = new int[MOST_CARPETS * CELLS];
        /** In how many fills a carpet covers a cell. */
        private final int[] tally = new int[MOST_CARPETS * CELLS];
        private final int[] path = new int[MOST_CARPETS];
        private int pathLength = 0;
        private int round = 0;
        private Judge judge;
        private Floor floor;
        private Text law;
        private Stand sight;
        private int bare;
        private boolean cheap;
        private int enough;

        void prepare(Floor ofFloor, Text byLaw, Judge byJudge) {
            floor = ofFloor;
            law = byLaw;
            judge = byJudge;
            sight = null;
            floor.drawRows();
            bare = floor.bareCells();
        }

        /** Only fills that agree with what was seen count from here; false, if none can. */
        boolean heed(Stand stand) {
            sight = stand;
            for (int i = 0; i < stand.seen; i++) {
                if (stand.seenX[i] >= floor.wide || stand.seenY[i] >= floor.high) {
                    return false;
                }
                int c = floor.carpetOn(stand.seenX[i], stand.seenY[i]);
                if (c != NONE && floor.side[c] != stand.seenSide[i]) {
                    return false;
                }
            }
            return true;
        }

        /** How many fills there are, as rows; the search ends at as many as are enough. */
        int number(int thatIsEnough) {
            begin(false, thatIsEnough);
            return areaReady() < bare ? 0 : solve(0L, bare, 0, 0);
        }

        int leastCost() {
            begin(true, 1);
            return areaReady() < bare ? NONE : solve(0L, bare, 0, 0);
        }

        /** Of the fill that number(1) found. */
        int rowLength() {
            return pathLength;
        }

        int rowCarpet(int i) {
            return i >= 0 && i < pathLength && i < path.length ? path[i] : NONE;
        }

        boolean fillsAlone(int carpet) {
            int cell = firstBare(0L, 0);
            return floor.side[carpet] * floor.side[carpet] == bare && fits(0L, carpet, cell)
                    && priceAt(carpet, cell) != NONE;
        }

        /** The bare cell at which, by the tally, the most fills that agree are the fewest; the first such. */
        int bestLook() {
            int best = NONE;
            for (int cell = 0; cell < CELLS; cell++) {
                if (isBare(0L, cell) && (best == NONE || mostAt(cell) < mostAt(best))) {
                    best = cell;
                }
            }
            return best;
        }

        int mostAt(int cell) {
            int most = 0;
            for (int c = 0; c < floor.carpets && cell >= 0 && cell < CELLS; c++) {
                most = Math.max(most, tally[c * CELLS + cell]);
            }
            return most;
        }

        private void begin(boolean forCost, int thatIsEnough) {
            cheap = forCost;
            enough = thatIsEnough;
            memo.clear();
            round++;
            pathLength = 0;
        }

        private int areaReady() {
            int area = 0;
            for (int c = 0; c < floor.carpets; c++) {
                area += floor.isReady(c) ? floor.side[c] * floor.side[c] : 0;
            }
            return area;
        }

        private int solve(long key, int left, int from, int depth) {
            if (left == 0) {
                pathLength = depth;
                return cheap ? 0 : 1;
            }
            int known = memo.find(key);
            if (known != NONE) {
                return memo.valueIn(known);
            }
            int cell = firstBare(key, from);
            int total = cheap ? NONE : 0;
            for (int c = 0; c < floor.carpets && depth < MOST_CARPETS && (cheap || total < enough); c++) {
                if (!fits(key, c, cell) || priceAt(c, cell) == NONE) {
                    continue;
                }
                path[depth] = c;
                int rest = solve(keyWith(key, c, cell), left - floor.side[c] * floor.side[c], cell, depth + 1);
                total = cheap ? cheaper(total, rest, priceAt(c, cell)) : total + rest;
            }
            memo.keep(key, total);
            return total;
        }

        private static int cheaper(int total, int rest, int cost) {
            if (rest == NONE) {
                return total;
            }
            return total == NONE ? rest + cost : Math.min(total, rest + cost);
        }

        private boolean isBare(long key, int cell) {
            int x = cell % GRID;
            int y = cell / GRID;
            return x < floor.wide && y < floor.high && (floor.rows[y] >> x & 1) == 0 && (key >>> 4 * x & 15) <= y;
        }

        private int firstBare(long key, int from) {
            for (int cell = from; cell < CELLS; cell++) {
                if (isBare(key, cell)) {
                    return cell;
                }
            }
            return NONE;
        }

        /** Whether a carpet has its place at a cell behind all that the key tells; the law is not asked here. */
        private boolean fits(long key, int c, int cell) {
            if (cell < 0 || !floor.isReady(c) || (key >>> USED + c & 1) != 0) {
                return false;
            }
            int side = floor.side[c];
            int x = cell % GRID;
            int y = cell / GRID;
            if (x + side > floor.wide || y + side > floor.high) {
                return false;
            }
            int square = (1 << side) - 1;
            for (int i = 0; i < side; i++) {
                if ((key >>> 4 * (x + i) & 15) > y || (floor.rows[y + i] >> x & square) != 0) {
                    return false;
                }
            }
            return agreesWithSeen(side, x, y);
        }

        private boolean agreesWithSeen(int side, int x, int y) {
            for (int i = 0; sight != null && i < sight.seen; i++) {
                int dx = sight.seenX[i] - x;
                int dy = sight.seenY[i] - y;
                if (dx >= 0 && dx < side && dy >= 0 && dy < side && sight.seenSide[i] != side) {
                    return false;
                }
            }
            return true;
        }

        private int priceAt(int c, int cell) {
            if (law == null) {
                return floor.side[c];
            }
            int place = c * CELLS + cell;
            if (asked[place] != round) {
                int x = cell % GRID;
                int y = cell / GRID;
                asked[place] = round;
                price[place] = judge.isBarred(law, floor, c, x, y) ? NONE
                        : cheap ? judge.costOf(law, floor, c, x, y) : 0;
            }
            return price[place];
        }

        private long keyWith(long key, int c, int cell) {
            int x = cell % GRID;
            long top = cell / GRID + floor.side[c];
            long columns = (1L << 4 * floor.side[c]) - 1 << 4 * x;
            return key & ~columns | top * ONE_IN_EACH_COLUMN << 4 * x & columns | 1L << USED + c;
        }

        /** Behind number() of all: each key's fills, counted once, times the ways that lead to it. */
        void tallyFills() {
            Arrays.fill(tally, 0);
            if (memo.full) {
                tallyRow(0L, bare, 0, 0);
                return;
            }
            memo.addFlow(memo.find(0L), 1);
            for (int n = memo.used - 1; n >= 0; n--) {
                int slot = memo.slotOfNth(n);
                if (memo.flowIn(slot) > 0 && memo.valueIn(slot) > 0) {
                    tallyKey(memo.keyIn(slot), memo.flowIn(slot));
                }
            }
        }

        private void tallyKey(long key, int flow) {
            int cell = firstBare(key, 0);
            for (int c = 0; c < floor.carpets; c++) {
                if (!fits(key, c, cell) || priceAt(c, cell) == NONE) {
                    continue;
                }
                int next = memo.find(keyWith(key, c, cell));
                if (next == NONE) {
                    // Every key with a bare cell is kept here, so none is left: that is one fill.
                    addToTally(c, cell, flow);
                } else {
                    memo.addFlow(next, flow);
                    addToTally(c, cell, flow * memo.valueIn(next));
                }
            }
        }

        /** The same row by row, for when there were too many keys to keep. */
        private int tallyRow(long key, int left, int from, int depth) {
            if (left == 0) {
                return 1;
            }
            int cell = firstBare(key, from);
            int total = 0;
            for (int c = 0; c < floor.carpets && depth < MOST_CARPETS; c++) {
                if (!fits(key, c, cell) || priceAt(c, cell) == NONE) {
                    continue;
                }
                int rest = tallyRow(keyWith(key, c, cell), left - floor.side[c] * floor.side[c], cell, depth + 1);
                addToTally(c, cell, rest);
                total += rest;
            }
            return total;
        }

        private void addToTally(int c, int cell, int fills) {
            int side = floor.side[c];
            for (int dy = 0; dy < side && fills > 0; dy++) {
                for (int dx = 0; dx < side; dx++) {
                    tally[c * CELLS + cell + dy * GRID + dx] += fills;
                }
            }
        }
    }

    /** Chances as whole numbers, reckoned without loss: the digits of a chance stand in limbs of twelve. */
    static final class Chance {
        static final int MOST_K = 20;
        static final int MOST_N = 99;
        private static final int DIGITS = 12;
        private static final long LIMB = 1000000000000L;
        /** 108 digits behind the point hold n of them for every n, and one limb is ahead of it. */
        private static final int LIMBS = 10;
        private static final int ONES = LIMBS - 1;

        private final long[] limbs = new long[MOST_K * LIMBS];

        /** Of LIMB parts: that of n, each eaten by so many of ten, fewer than k are. */
        long fewer(int k, int n, int ofTen) {
            setStart(n);
            for (int i = 0; i < n; i++) {
                for (int eaten = k - 1; eaten >= 0; eaten--) {
                    addOneMore(eaten, ofTen);
                }
            }
            long sum = 0;
            for (int eaten = 0; eaten < k; eaten++) {
                // What stands in the limbs below is cut, of each part.
                sum += limbs[eaten * LIMBS + ONES] * LIMB + limbs[eaten * LIMBS + ONES - 1];
            }
            return sum;
        }

        /** None is eaten of none, for sure; smaller by ten for each that comes, as each makes it ten times more. */
        private void setStart(int n) {
            Arrays.fill(limbs, 0L);
            int digit = ONES * DIGITS - n;
            long value = 1;
            for (int i = 0; i < digit % DIGITS; i++) {
                value *= 10;
            }
            if (digit >= 0) {
                limbs[digit / DIGITS] = value;
            }
        }

        private void addOneMore(int eaten, int ofTen) {
            long carried = 0;
            for (int i = 0; i < LIMBS; i++) {
                int place = eaten * LIMBS + i;
                long told = limbs[place] * (10 - ofTen) + carried;
                if (eaten > 0) {
                    told += limbs[place - LIMBS] * ofTen;
                }
                limbs[place] = told % LIMB;
                carried = told / LIMB;
            }
        }
    }
}
