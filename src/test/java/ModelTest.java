import java.math.BigInteger;
import java.util.ArrayList;
import java.util.Arrays;
import java.util.List;
import java.util.Random;

/** Random runs of calls, each answer compared with that of a plain model that lists every fill one by one. */
public final class ModelTest {

    static final int NONE = -1;
    static int wrong = 0;

    // ---------------------------------------------------------------- the two languages

    static final class Fault extends RuntimeException {
        final int place;
        Fault(int place) { super(null, null, false, false); this.place = place; }
    }

    static final class Broken extends RuntimeException {
        Broken() { super(null, null, false, false); }
    }

    interface Words { long value(String word, int c); }

    static abstract class Node { abstract long ask(Words w); }

    static long checked(long v) {
        if (Math.abs(v) > 1_000_000_000L) throw new Broken();
        return v;
    }

    static final class Leaf extends Node {
        final String word; final int c; final long number;
        Leaf(String word, int c, long number) { this.word = word; this.c = c; this.number = number; }
        long ask(Words w) { return word == null ? number : w.value(word, c); }
    }

    static final class Two extends Node {
        final String op; final Node a, b;
        Two(String op, Node a, Node b) { this.op = op; this.a = a; this.b = b; }
        long ask(Words w) {
            long l = a.ask(w);
            if (op.equals("or")) return l != 0 ? 1 : b.ask(w);
            if (op.equals("and")) return l == 0 ? 0 : b.ask(w);
            if (op.equals("not")) return l == 0 ? 1 : 0;
            long r = b.ask(w);
            switch (op) {
                case "+": return checked(l + r);
                case "-": return checked(l - r);
                case "*": return checked(l * r);
                case "/": if (r == 0) throw new Broken(); return l / r;
                case "%": if (r == 0) throw new Broken(); return l - l / r * r;
                case "<": return l < r ? 1 : 0;
                case ">": return l > r ? 1 : 0;
                default: return l == r ? 1 : 0;
            }
        }
    }

    static final class Clause {
        String kind; Node[] sums = new Node[0]; Node test; int times = 1;
        boolean isSo(Words w) {
            if (test == null) return true;
            try { return test.ask(w) != 0; } catch (Broken e) { return false; }
        }
    }

    static final class Parser {
        final List<String> tokens = new ArrayList<>();
        final List<Integer> places = new ArrayList<>();
        final boolean orders;
        int at = 0, parts = 0, depth = 0;

        Parser(byte[] text, boolean orders) {
            this.orders = orders;
            String s = new String(text, java.nio.charset.StandardCharsets.ISO_8859_1);
            java.util.regex.Matcher m = java.util.regex.Pattern.compile("[a-z]+|[0-9]+|[^ ]",
                    java.util.regex.Pattern.DOTALL).matcher(s);
            while (m.find()) { tokens.add(m.group()); places.add(m.start()); }
            tokens.add("END OF IT"); places.add(text.length);
        }

        String peek() { return tokens.get(at); }
        Fault fault() { return new Fault(places.get(at)); }
        boolean eat(String t) { if (peek().equals(t)) { at++; return true; } return false; }
        void must(String t) { if (!eat(t)) throw fault(); }

        List<Clause> all() {
            List<Clause> list = new ArrayList<>();
            do {
                if (list.size() == 12) throw fault();
                list.add(clause());
            } while (eat(";"));
            must("END OF IT");
            return list;
        }

        Clause clause() {
            Clause c = new Clause();
            c.kind = peek();
            List<String> kinds = orders ? Arrays.asList("lay", "roll", "mirror", "pass") : Arrays.asList("costs", "wears", "bars");
            if (!kinds.contains(c.kind)) throw fault();
            at++;
            switch (c.kind) {
                case "lay": {
                    Node a = sum(); must("at"); Node b = sum(); must("by"); Node d = sum();
                    c.sums = new Node[] {a, b, d};
                    break;
                }
                case "roll": case "costs": case "wears": c.sums = new Node[] {sum()}; break;
                default: break;
            }
            if (orders && eat("times")) c.times = number(1, 20);
            if (eat("if")) c.test = test();
            return c;
        }

        int number(int low, int high) {
            String t = peek();
            if (!t.matches("[0-9]+")) throw fault();
            BigInteger v = new BigInteger(t);
            if (v.compareTo(BigInteger.valueOf(low)) < 0 || v.compareTo(BigInteger.valueOf(high)) > 0) throw fault();
            at++;
            return v.intValue();
        }

        Node test() { Node n = both(); while (eat("or")) n = new Two("or", n, both()); return n; }
        Node both() { Node n = plain(); while (eat("and")) n = new Two("and", n, plain()); return n; }
        Node plain() {
            if (eat("not")) return new Two("not", plain(), null);
            if (peek().equals("(")) {
                if (depth == 8) throw fault();
                depth++; at++;
                Node n = test();
                must(")"); depth--;
                return n;
            }
            Node a = sum();
            String op = peek();
            if (!op.equals("<") && !op.equals(">") && !op.equals("=")) throw fault();
            at++;
            return new Two(op, a, sum());
        }
        Node sum() {
            Node n = term();
            while (peek().equals("+") || peek().equals("-")) { String op = tokens.get(at++); n = new Two(op, n, term()); }
            return n;
        }
        Node term() {
            Node n = part();
            while (peek().equals("*") || peek().equals("/") || peek().equals("%")) { String op = tokens.get(at++); n = new Two(op, n, part()); }
            return n;
        }
        Node part() {
            if (peek().equals("[")) {
                if (depth == 8) throw fault();
                depth++; at++;
                Node n = sum();
                must("]"); depth--;
                return n;
            }
            if (parts == 50) throw fault();
            if (peek().matches("[0-9]+")) { parts++; return new Leaf(null, 0, number(0, 1000)); }
            List<String> words = orders ? Arrays.asList("year", "done", "latest", "bare", "paid", "pile", "laid")
                    : Arrays.asList("carpet", "side", "kind", "pile", "x", "y", "year", "mood");
            if (!words.contains(peek())) throw fault();
            parts++;
            String word = tokens.get(at++);
            int c = orders && (word.equals("pile") || word.equals("laid")) ? number(0, 8) : 0;
            return new Leaf(word, c, 0);
        }
    }

    // ---------------------------------------------------------------- the model

    static final class Rug implements Cloneable {
        int side, kind, pile, x = -1, y = -1;
        boolean laid() { return x >= 0; }
        Rug copy() { try { return (Rug) clone(); } catch (CloneNotSupportedException e) { throw new IllegalStateException(e); } }
    }

    static final class World {
        List<Rug> rugs = new ArrayList<>();
        int wide = 8, high = 8, paid = 0, forced = -1;
        int[] terms = {0, 1, 0};
        List<int[]> seen = new ArrayList<>();
        List<List<Clause>> laws = new ArrayList<>();

        World copy() {
            World w = new World();
            for (Rug r : rugs) w.rugs.add(r.copy());
            w.wide = wide; w.high = high; w.paid = paid; w.forced = forced; w.terms = terms.clone();
            w.seen.addAll(seen); w.laws.addAll(laws);
            return w;
        }

        List<Clause> force() { return forced < 0 ? new ArrayList<>() : laws.get(forced); }

        int[][] grid() {
            int[][] g = new int[high][wide];
            for (int[] row : g) Arrays.fill(row, -1);
            for (int c = 0; c < rugs.size(); c++) {
                Rug r = rugs.get(c);
                if (r.laid()) for (int j = 0; j < r.side; j++) for (int i = 0; i < r.side; i++) g[r.y + j][r.x + i] = c;
            }
            return g;
        }

        Words words(int c, int x, int y) {
            Rug r = rugs.get(c);
            return (w, k) -> {
                switch (w) {
                    case "carpet": return c;
                    case "side": return r.side;
                    case "kind": return r.kind;
                    case "pile": return r.pile;
                    case "x": return x;
                    case "y": return y;
                    case "year": return terms[0];
                    default: return terms[2];
                }
            };
        }

        /** The last that holds: its sum (1 for bars), or null. */
        Long tells(List<Clause> law, String kind, int c, int x, int y) {
            Long told = null;
            Words w = words(c, x, y);
            for (Clause clause : law) {
                if (!clause.kind.equals(kind) || !clause.isSo(w)) continue;
                try { told = kind.equals("bars") ? 1L : clause.sums[0].ask(w); } catch (Broken e) { /* it doesn't hold */ }
            }
            return told;
        }
        int cost(List<Clause> law, int c, int x, int y) {
            Long t = tells(law, "costs", c, x, y);
            return t == null ? rugs.get(c).side : (int) Math.max(0, Math.min(99, t));
        }
        int wear(int c) {
            Rug r = rugs.get(c);
            Long t = tells(force(), "wears", c, r.x, r.y);
            return t == null ? 1 : (int) Math.max(0, Math.min(9, t));
        }
        boolean barred(List<Clause> law, int c, int x, int y) { return tells(law, "bars", c, x, y) != null; }

        boolean free(int[][] g, int c, int x, int y) {
            int s = rugs.get(c).side;
            if (x + s > wide || y + s > high) return false;
            for (int j = 0; j < s; j++) for (int i = 0; i < s; i++) if (g[y + j][x + i] >= 0) return false;
            return true;
        }
        boolean canLie(int c, int x, int y) {
            Rug r = rugs.get(c);
            return !r.laid() && r.pile > 0 && free(grid(), c, x, y) && !barred(force(), c, x, y);
        }
        int bare() { int n = 0; for (int[] row : grid()) for (int v : row) if (v < 0) n++; return n; }

        int pass() {
            int[] wear = new int[rugs.size()];
            for (int c = 0; c < wear.length; c++) if (rugs.get(c).laid()) wear[c] = wear(c);
            int rags = 0;
            for (int c = 0; c < wear.length; c++) {
                Rug r = rugs.get(c);
                if (!r.laid()) continue;
                r.pile = Math.max(0, r.pile - wear[c]);
                if (r.pile == 0) { r.x = r.y = -1; rags++; }
            }
            terms[0]++;
            return rags;
        }

        /** Every fill: its row of carpets and the grid it leaves, cost. */
        List<Fill> fills(List<Clause> law) {
            List<Fill> all = new ArrayList<>();
            extend(law, grid(), new ArrayList<>(), 0, all);
            return all;
        }
        void extend(List<Clause> law, int[][] g, List<Integer> row, int cost, List<Fill> all) {
            for (int y = 0; y < high; y++) for (int x = 0; x < wide; x++) {
                if (g[y][x] >= 0) continue;
                for (int c = 0; c < rugs.size(); c++) {
                    Rug r = rugs.get(c);
                    if (r.laid() || r.pile == 0 || row.contains(c) || !free(g, c, x, y) || barred(law, c, x, y)) continue;
                    for (int j = 0; j < r.side; j++) for (int i = 0; i < r.side; i++) g[y + j][x + i] = c;
                    row.add(c);
                    extend(law, g, row, cost + cost(law, c, x, y), all);
                    row.remove(row.size() - 1);
                    for (int j = 0; j < r.side; j++) for (int i = 0; i < r.side; i++) g[y + j][x + i] = -1;
                }
                return;
            }
            Fill f = new Fill();
            f.row = new ArrayList<>(row);
            f.cost = cost;
            f.grid = new int[high][];
            for (int y = 0; y < high; y++) f.grid[y] = g[y].clone();
            all.add(f);
        }
    }

    static final class Fill { List<Integer> row; int cost; int[][] grid; }

    static final class Model {
        World w = new World();
        World[] images = new World[2];
        World drawn = null;
        byte[] tape = new byte[0];
        List<World> past = new ArrayList<>();
        List<Integer> pastKinds = new ArrayList<>();
        int[] refused = new int[7];
        int status = 0, fault = -1, fluff = 0, stopped = -1;
        List<Fill> fillsNow = null;

        int tell(int v) { status = 0; return v; }
        int no(int code) { status = code; refused[-code]++; return code; }
        void forgetPast() { past.clear(); pastKinds.clear(); }

        int add(int side, int kind, int pile) {
            if (side < 1 || side > 12 || kind < 0 || kind > 3 || pile < 0 || pile > 9) return -1;
            if (w.rugs.size() == 9) return -5;
            Rug r = new Rug(); r.side = side; r.kind = kind; r.pile = pile;
            w.rugs.add(r);
            return w.rugs.size() - 1;
        }
        boolean has(int c) { return c >= 0 && c < w.rugs.size(); }
        static boolean cell(int x, int y) { return x >= 0 && x <= 11 && y >= 0 && y <= 11; }

        void keep(int kind) {
            past.add(w.copy()); pastKinds.add(kind);
            if (past.size() > 16) { past.remove(0); pastKinds.remove(0); }
        }
        int lay(int c, int x, int y) {
            if (!cell(x, y)) return -1;
            if (!has(c)) return -2;
            if (!w.canLie(c, x, y)) return -3;
            keep(0);
            int cost = w.cost(w.force(), c, x, y);
            w.rugs.get(c).x = x; w.rugs.get(c).y = y;
            w.paid = Math.min(9999, w.paid + cost);
            return cost;
        }
        int roll(int c) {
            if (!has(c)) return -2;
            if (!w.rugs.get(c).laid()) return -3;
            keep(1);
            w.rugs.get(c).x = w.rugs.get(c).y = -1;
            return w.bare();
        }
        int mirror() {
            keep(2);
            int n = 0;
            for (Rug r : w.rugs) if (r.laid()) { r.x = w.wide - r.side - r.x; n++; }
            return n;
        }
        int pass() {
            if (w.terms[0] == 999) return -3;
            keep(3);
            return w.pass();
        }
        int undo() {
            if (past.isEmpty()) return -3;
            World was = past.remove(past.size() - 1);
            for (int c = 0; c < w.rugs.size(); c++) w.rugs.set(c, was.rugs.get(c).copy());
            w.paid = was.paid; w.terms[0] = was.terms[0];
            return pastKinds.remove(pastKinds.size() - 1);
        }
        int law() {
            byte[] t = tape; tape = new byte[0];
            if (w.laws.size() == 6) return -5;
            try { List<Clause> l = new Parser(t, false).all(); fault = -1; w.laws.add(l); return w.laws.size() - 1; }
            catch (Fault f) { fault = f.place; return -6; }
        }
        int done, latest;
        int orders() {
            byte[] t = tape; tape = new byte[0];
            stopped = -1;
            List<Clause> l;
            try { l = new Parser(t, true).all(); fault = -1; } catch (Fault f) { fault = f.place; return -6; }
            World was = w.copy();
            List<World> wasPast = new ArrayList<>(past); List<Integer> wasKinds = new ArrayList<>(pastKinds);
            done = 0; latest = -1;
            Words words = (word, c) -> {
                switch (word) {
                    case "year": return w.terms[0];
                    case "done": return done;
                    case "latest": return latest;
                    case "bare": return w.bare();
                    case "paid": return w.paid;
                    case "pile": return has(c) ? w.rugs.get(c).pile : -1;
                    default: return has(c) ? (w.rugs.get(c).laid() ? 1 : 0) : -1;
                }
            };
            for (int i = 0; i < l.size(); i++) for (int n = 0; n < l.get(i).times; n++) {
                Clause c = l.get(i);
                if (!c.isSo(words)) continue;
                int told;
                try {
                    int[] v = new int[3];
                    for (int k = 0; k < c.sums.length; k++) v[k] = (int) c.sums[k].ask(words);
                    told = c.kind.equals("lay") ? lay(v[0], v[1], v[2]) : c.kind.equals("roll") ? roll(v[0])
                            : c.kind.equals("mirror") ? mirror() : pass();
                    if (c.kind.equals("lay")) latest = told;
                } catch (Broken e) { told = -3; }
                if (told < 0) { w = was; past = wasPast; pastKinds = wasKinds; stopped = i; return -3; }
                done++;
            }
            return done;
        }
        List<Fill> fills() { if (fillsNow == null) fillsNow = w.fills(w.force()); return fillsNow; }
        List<Fill> floors() {
            List<Fill> out = new ArrayList<>();
            next:
            for (Fill f : fills()) {
                for (int[] s : w.seen) {
                    if (s[0] >= w.wide || s[1] >= w.high || w.rugs.get(f.grid[s[1]][s[0]]).side != s[2]) continue next;
                }
                out.add(f);
            }
            return out;
        }
        int cheapest(List<Fill> fills) {
            int best = -1;
            for (Fill f : fills) if (best < 0 || f.cost < best) best = f.cost;
            return best;
        }
        List<Integer> halls() {
            List<Integer> out = new ArrayList<>();
            int area = 0;
            for (Rug r : w.rugs) if (r.pile > 0) area += r.side * r.side;
            if (area == 0) return out;
            for (int a = 1; a <= 12; a++) for (int b = 1; b <= 12; b++) {
                if (a * b != area) continue;
                World p = w.copy();
                for (Rug r : p.rugs) r.x = r.y = -1;
                p.wide = a; p.high = b;
                if (!p.fills(p.force()).isEmpty()) out.add(100 * a + b);
            }
            return out;
        }
        int inner() {
            int[][] g = w.grid();
            int n = 0;
            for (int x0 = 0; x0 < w.wide; x0++) for (int x1 = x0 + 1; x1 <= w.wide; x1++)
                for (int y0 = 0; y0 < w.high; y0++) for (int y1 = y0 + 1; y1 <= w.high; y1++) {
                    if (x1 - x0 == w.wide && y1 - y0 == w.high) continue;
                    boolean ok = true;
                    java.util.Set<Integer> in = new java.util.HashSet<>();
                    for (int y = y0; y < y1 && ok; y++) for (int x = x0; x < x1 && ok; x++) { in.add(g[y][x]); ok = g[y][x] >= 0; }
                    if (!ok || in.size() < 2) continue;
                    for (int c : in) {
                        Rug r = w.rugs.get(c);
                        if (r.x < x0 || r.y < y0 || r.x + r.side > x1 || r.y + r.side > y1) ok = false;
                    }
                    if (ok) n++;
                }
            return n;
        }
        int crosses() {
            int[][] g = w.grid();
            int n = 0;
            for (int y = 1; y < w.high; y++) for (int x = 1; x < w.wide; x++) {
                java.util.Set<Integer> in = new java.util.HashSet<>(Arrays.asList(g[y][x], g[y - 1][x], g[y][x - 1], g[y - 1][x - 1]));
                if (in.size() == 4 && !in.contains(-1)) n++;
            }
            return n;
        }
        int free() {
            int bits = 0;
            for (int c = 0; c < w.rugs.size(); c++) {
                if (!w.rugs.get(c).laid()) continue;
                World p = w.copy();
                p.rugs.get(c).x = p.rugs.get(c).y = -1;
                List<Fill> f = p.fills(p.force());
                if (f.size() == 1 && !f.get(0).row.equals(Arrays.asList(c))) bits |= 1 << c;
            }
            return bits;
        }
        int[] look() {
            List<Fill> f = floors();
            if (f.isEmpty() || w.bare() == 0) return null;
            int[][] g = w.grid();
            int[] best = null;
            for (int y = 0; y < w.high; y++) for (int x = 0; x < w.wide; x++) {
                if (g[y][x] >= 0) continue;
                int[] n = new int[9];
                int most = 0;
                for (Fill one : f) most = Math.max(most, ++n[one.grid[y][x]]);
                if (best == null || most < best[2]) best = new int[] {x, y, most};
            }
            return best;
        }
        long few(int k, int n) {
            if (k < 1 || k > 20 || n < 0 || n > 99) return -1;
            BigInteger sum = BigInteger.ZERO, choose = BigInteger.ONE;
            for (int j = 0; j < k && j <= n; j++) {
                BigInteger part = choose.multiply(BigInteger.valueOf(w.terms[1]).pow(j)).multiply(BigInteger.valueOf(10 - w.terms[1]).pow(n - j));
                sum = sum.add(part.multiply(BigInteger.TEN.pow(12)).divide(BigInteger.TEN.pow(n)));
                choose = choose.multiply(BigInteger.valueOf(n - j)).divide(BigInteger.valueOf(j + 1));
            }
            return sum.longValueExact();
        }
        int years(int seed, int n) {
            if (seed < 0 || seed > 1000000 || n < 1 || n > 60) return -1;
            if (w.rugs.isEmpty()) return -3;
            World p = w.copy();
            long s = seed;
            for (int i = 0; i < n && p.terms[0] < 999; i++) {
                s = (s * 1103 + 12345) % 1000003; int c = (int) (s % p.rugs.size());
                s = (s * 1103 + 12345) % 1000003; int x = (int) (s % p.wide);
                s = (s * 1103 + 12345) % 1000003; int y = (int) (s % p.high);
                s = (s * 1103 + 12345) % 1000003;
                Rug r = p.rugs.get(c);
                if (s % 3 == 2) { if (r.laid()) r.x = r.y = -1; }
                else if (p.canLie(c, x, y)) { r.x = x; r.y = y; }
                p.pass();
            }
            drawn = p;
            return p.bare();
        }

        long call(String name, int[] a) {
            switch (name) {
                case "carpet": { int r = add(a[0], a[1], a[2]); if (r >= 0) forgetPast(); return r < 0 ? no(r) : tell(r); }
                case "of": {
                    if (!has(a[0])) return -1;
                    Rug r = w.rugs.get(a[0]);
                    switch (a[1]) {
                        case 0: return r.side; case 1: return r.kind; case 2: return r.pile; case 3: return r.x; case 4: return r.y;
                        case 5: return r.laid() ? w.wear(a[0]) : -1; default: return -1;
                    }
                }
                case "hall":
                    if (a[0] < 1 || a[0] > 12 || a[1] < 1 || a[1] > 12) return no(-1);
                    for (Rug r : w.rugs) if (r.laid()) return no(-3);
                    w.wide = a[0]; w.high = a[1]; forgetPast();
                    return tell(a[0] * a[1]);
                case "at": return a[0] < 0 || a[1] < 0 || a[0] >= w.wide || a[1] >= w.high ? -1 : w.grid()[a[1]][a[0]];
                case "asks":
                    if (!has(a[0]) || !cell(a[1], a[2])) return -1;
                    return a[3] == 0 ? w.cost(w.force(), a[0], a[1], a[2]) : a[3] == 1 ? (w.barred(w.force(), a[0], a[1], a[2]) ? 1 : 0)
                            : a[3] == 2 ? (w.canLie(a[0], a[1], a[2]) ? 1 : 0) : -1;
                case "terms": {
                    int[] most = {999, 10, 9};
                    if (a[0] < 0 || a[0] > 2 || a[1] < 0 || a[1] > most[a[0]]) return no(-1);
                    int was = w.terms[a[0]]; w.terms[a[0]] = a[1]; forgetPast();
                    return tell(was);
                }
                case "feed": {
                    if (tape.length + 20 > 400) return -1;
                    java.nio.ByteBuffer b = java.nio.ByteBuffer.allocate(tape.length + 20);
                    b.put(tape);
                    for (int v : a) b.putInt(v);
                    tape = b.array();
                    return tape.length;
                }
                case "end": if (a[0] < 0 || a[0] > tape.length) return -1; tape = Arrays.copyOf(tape, a[0]); return a[0];
                case "row": {
                    if (tape.length == 0) return no(-6);
                    int came = 0; fluff = 0;
                    for (int i = 0; i < tape.length; i += 3) {
                        if (i + 3 <= tape.length && add(tape[i] & 255, tape[i + 1] & 255, tape[i + 2] & 255) >= 0) came++; else fluff++;
                    }
                    tape = new byte[0]; forgetPast();
                    return tell(came);
                }
                case "fluff": return fluff;
                case "law": { int r = law(); return r < 0 ? no(r) : tell(r); }
                case "orders": { int r = orders(); return r < 0 ? no(r) : tell(r); }
                case "fault": return fault;
                case "stopped": return stopped;
                case "force": {
                    if (a[0] < -1 || a[0] >= w.laws.size()) return no(-2);
                    int was = w.forced; w.forced = a[0];
                    return tell(was);
                }
                case "lay": { int r = lay(a[0], a[1], a[2]); return r < 0 ? no(r) : tell(r); }
                case "roll": { int r = roll(a[0]); return r < 0 ? no(r) : tell(r); }
                case "mirror": return tell(mirror());
                case "pass": { int r = pass(); return r < 0 ? no(r) : tell(r); }
                case "undo": { int r = undo(); return r < 0 ? no(r) : tell(r); }
                case "bare": {
                    if (a[0] == 0) return w.bare();
                    int[][] g = w.grid();
                    for (int y = 0; y < w.high; y++) for (int x = 0; x < w.wide; x++) if (g[y][x] < 0) return a[0] == 1 ? x : a[0] == 2 ? y : -1;
                    return -1;
                }
                case "fill": {
                    if (fills().isEmpty()) return -1;
                    List<Integer> row = fills().get(0).row;
                    return a[0] == -1 ? row.size() : a[0] >= 0 && a[0] < row.size() ? row.get(a[0]) : -1;
                }
                case "ways": return fills().size();
                case "cheapest": return cheapest(fills());
                case "halls": { List<Integer> h = halls(); return a[0] == -1 ? h.size() : a[0] >= 0 && a[0] < h.size() ? h.get(a[0]) : -1; }
                case "inner": return inner();
                case "crosses": return crosses();
                case "currents": {
                    if (a[0] < 0 || a[0] > w.high || a[1] < 0 || a[1] > 1) return -1;
                    int n = 0;
                    for (Rug r : w.rugs) if (r.laid() && (a[1] == 0 ? r.y : r.y + r.side) == a[0]) n += r.side;
                    return n;
                }
                case "fitting": {
                    if (a[0] < 1 || a[0] > 12) return -1;
                    int[][] g = w.grid();
                    int n = 0;
                    for (int y = 0; y + a[0] <= w.high; y++) for (int x = 0; x + a[0] <= w.wide; x++) {
                        boolean ok = true;
                        for (int j = 0; j < a[0]; j++) for (int i = 0; i < a[0]; i++) ok &= g[y + j][x + i] < 0;
                        if (ok) n++;
                    }
                    return n;
                }
                case "alike": {
                    int n = 0;
                    for (Rug r : w.rugs) for (Rug q : w.rugs) if (r != q && r.laid() && q.laid() && r.side == q.side) n++;
                    return n / 2;
                }
                case "free": return free();
                case "seen":
                    if (!cell(a[0], a[1]) || a[2] < 1 || a[2] > 12) return no(-1);
                    if (w.seen.size() == 6) return no(-5);
                    w.seen.add(a.clone());
                    return tell(w.seen.size());
                case "forget": { int n = w.seen.size(); w.seen.clear(); return n; }
                case "floors": return floors().size();
                case "look": { int[] l = look(); return l == null || a[0] < 0 || a[0] > 2 ? -1 : l[a[0]]; }
                case "few": return few(a[0], a[1]);
                case "compare": return a[0] < -1 || a[0] >= w.laws.size() ? -1 : cheapest(w.fills(a[0] < 0 ? new ArrayList<>() : w.laws.get(a[0])));
                case "years": { int r = years(a[0], a[1]); return r < 0 ? no(r) : tell(r); }
                case "drawn": {
                    if (drawn == null || a[0] < 0 || a[0] >= drawn.rugs.size()) return -1;
                    Rug r = drawn.rugs.get(a[0]);
                    return a[1] == 0 ? r.pile : a[1] == 1 ? r.x : a[1] == 2 ? r.y : -1;
                }
                case "image": if (a[0] < 0 || a[0] > 1) return no(-1); images[a[0]] = w.copy(); return tell(0);
                case "back":
                    if (a[0] < 0 || a[0] > 1) return no(-1);
                    if (images[a[0]] == null) return no(-2);
                    w = images[a[0]].copy(); forgetPast();
                    return tell(0);
                case "count": {
                    int laid = 0, rags = 0;
                    for (Rug r : w.rugs) { if (r.laid()) laid++; if (r.pile == 0) rags++; }
                    int[] v = {w.rugs.size(), laid, rags, w.paid, w.seen.size(), w.laws.size(), past.size(), tape.length,
                        refused[1], refused[2], refused[3], refused[5], refused[6], w.forced, w.terms[0], w.terms[1], w.terms[2], w.wide, w.high};
                    return a[0] < 0 || a[0] >= v.length ? -1 : v[a[0]];
                }
                default: return status;
            }
        }
    }

    static long real(CarpetHalls h, String name, int[] a) {
        switch (name) {
            case "carpet": return h.carpet(a[0], a[1], a[2]);
            case "of": return h.of(a[0], a[1]);
            case "hall": return h.hall(a[0], a[1]);
            case "at": return h.at(a[0], a[1]);
            case "asks": return h.asks(a[0], a[1], a[2], a[3]);
            case "terms": return h.terms(a[0], a[1]);
            case "feed": return h.feed(a[0], a[1], a[2], a[3], a[4]);
            case "end": return h.end(a[0]);
            case "row": return h.row();
            case "fluff": return h.fluff();
            case "law": return h.law();
            case "orders": return h.orders();
            case "fault": return h.fault();
            case "stopped": return h.stopped();
            case "force": return h.force(a[0]);
            case "lay": return h.lay(a[0], a[1], a[2]);
            case "roll": return h.roll(a[0]);
            case "mirror": return h.mirror();
            case "pass": return h.pass();
            case "undo": return h.undo();
            case "bare": return h.bare(a[0]);
            case "fill": return h.fill(a[0]);
            case "ways": return h.ways();
            case "cheapest": return h.cheapest();
            case "halls": return h.halls(a[0]);
            case "inner": return h.inner();
            case "crosses": return h.crosses();
            case "currents": return h.currents(a[0], a[1]);
            case "fitting": return h.fitting(a[0]);
            case "alike": return h.alike();
            case "free": return h.free();
            case "seen": return h.seen(a[0], a[1], a[2]);
            case "forget": return h.forget();
            case "floors": return h.floors();
            case "look": return h.look(a[0]);
            case "few": return h.few(a[0], a[1]);
            case "compare": return h.compare(a[0]);
            case "years": return h.years(a[0], a[1]);
            case "drawn": return h.drawn(a[0], a[1]);
            case "image": return h.image(a[0]);
            case "back": return h.back(a[0]);
            case "count": return h.count(a[0]);
            default: return h.status();
        }
    }

    // ---------------------------------------------------------------- random runs

    static final class Run {
        final Random r;
        final CarpetHalls halls = new CarpetHalls();
        final Model model = new Model();
        final List<String> log = new ArrayList<>();
        int calls = 0;
        boolean off = false;
        final int number;

        Run(int number) { this.number = number; this.r = new Random(number * 7919L + 11); }

        long call(String name, int... a) {
            if (off || calls >= 512) return 0;
            calls++;
            if (!READS.contains(name)) model.fillsNow = null;
            long want = model.call(name, a);
            long got = real(halls, name, a);
            log.add(name + Arrays.toString(a) + " = " + got);
            if (got != want) {
                off = true;
                wrong++;
                System.out.println("run " + number + ": " + name + Arrays.toString(a) + " answered " + got + ", due is " + want);
                for (int i = Math.max(0, log.size() - 40); i < log.size(); i++) System.out.println("    " + log.get(i));
            }
            return want;
        }

        void write(byte[] text) {
            call("end", 0);
            int length = Math.min(400, text.length);
            byte[] padded = Arrays.copyOf(text, (length + 19) / 20 * 20);
            java.nio.ByteBuffer b = java.nio.ByteBuffer.wrap(padded);
            while (b.remaining() > 0) call("feed", b.getInt(), b.getInt(), b.getInt(), b.getInt(), b.getInt());
            call("end", length);
        }

        int pick(int low, int high) { return low + r.nextInt(high - low + 1); }
        String one(String... of) { return of[r.nextInt(of.length)]; }
        int number(int low, int high) { return r.nextInt(12) == 0 ? one2() : pick(low, high); }
        int one2() { int[] odd = {-2, -1, 12, 13, 20, 61, 100, 1000, Integer.MAX_VALUE, Integer.MIN_VALUE}; return odd[r.nextInt(odd.length)]; }

        String sum(boolean orders, int depth) {
            StringBuilder s = new StringBuilder(part(orders, depth));
            while (r.nextInt(3) == 0) s.append(one(" ", "")).append(one("+", "-", "*", "/", "%", "*", "*")).append(one(" ", "")).append(part(orders, depth));
            return s.toString();
        }
        String part(boolean orders, int depth) {
            int k = r.nextInt(depth > 9 ? 4 : 5);
            if (k == 4) return "[" + sum(orders, depth + 1) + "]";
            if (k < 2) return String.valueOf(r.nextInt(8) == 0 ? one("1000", "999", "0", "1001", "00012") : pick(0, 9));
            if (!orders) return one("carpet", "side", "kind", "pile", "x", "y", "year", "mood");
            String w = one("year", "done", "latest", "bare", "paid", "pile", "laid");
            return w.equals("pile") || w.equals("laid") ? w + " " + (r.nextInt(20) == 0 ? "9" : "" + pick(0, 8)) : w;
        }
        String test(boolean orders, int depth) {
            StringBuilder s = new StringBuilder(plain(orders, depth));
            while (r.nextInt(3) == 0) s.append(one(" and ", " or ")).append(plain(orders, depth));
            return s.toString();
        }
        String plain(boolean orders, int depth) {
            int k = r.nextInt(6);
            if (k == 0) return "not " + plain(orders, depth);
            if (k == 1 && depth < 10) return "(" + test(orders, depth + 1) + ")";
            return sum(orders, depth) + one(" ", "") + one("<", ">", "=") + one(" ", "") + sum(orders, depth);
        }
        String lawClause() {
            String s = one("costs ", "wears ", "bars");
            if (!s.equals("bars")) s += sum(false, 0);
            if (s.equals("bars") ? r.nextInt(8) != 0 : r.nextBoolean()) s += " if " + test(false, 0);
            return s;
        }
        String orderClause() {
            int c = pick(0, Math.max(0, model.w.rugs.size() - 1));
            String s = one("lay ", "lay ", "lay ", "roll ", "mirror", "pass");
            if (s.equals("lay ")) {
                boolean plain = r.nextInt(3) != 0;
                s += plain ? c + " at " + pick(0, 3) + " by " + pick(0, 3) : sum(true, 0) + " at " + sum(true, 0) + " by " + sum(true, 0);
                if (plain && r.nextBoolean()) s += " if laid " + c + " = 0";
            } else if (s.equals("roll ")) {
                s += r.nextBoolean() ? c + " if laid " + c + " = 1" : sum(true, 0);
                return s;
            }
            if (!s.contains(" if ")) {
                if (r.nextInt(4) == 0) s += " times " + (r.nextInt(10) == 0 ? one("0", "21", "20") : "" + pick(1, 20));
                if (r.nextBoolean()) s += " if " + test(true, 0);
            }
            return s;
        }
        byte[] text(boolean orders) {
            StringBuilder s = new StringBuilder();
            int n = r.nextInt(10) == 0 ? pick(10, 14) : pick(1, 4);
            for (int i = 0; i < n; i++) {
                if (i > 0) s.append(one(";", " ; "));
                s.append(n > 9 ? (orders ? one("pass", "mirror") : one("costs 1", "wears y", "bars if x=y")) : orders ? orderClause() : lawClause());
            }
            if (r.nextInt(6) == 0) spoil(s);
            if (r.nextInt(10) == 0) s.append("  ");
            return s.toString().getBytes(java.nio.charset.StandardCharsets.ISO_8859_1);
        }
        void spoil(StringBuilder s) {
            int at = r.nextInt(s.length() + 1);
            switch (r.nextInt(4)) {
                case 0: s.setLength(at); break;
                case 1: s.insert(at, one(" ", ";", "(", ")", "[", "]", "if ", " or ", "1", "x", "\u00e9", "\0", "A", "not ", "=", "times 3")); break;
                case 2: if (at < s.length()) s.deleteCharAt(at); break;
                default: if (at < s.length()) s.setCharAt(at, (char) r.nextInt(256)); break;
            }
        }

        static final List<String> READS = Arrays.asList("of", "at", "asks", "feed", "end", "fluff", "fault", "stopped", "bare", "fill",
            "ways", "cheapest", "halls", "inner", "crosses", "currents", "fitting", "alike", "free", "seen", "forget", "floors", "look",
            "few", "compare", "years", "drawn", "image", "count", "status");

        void askAll() {
            call("ways");
            call("fill", -1);
            call("fill", pick(-2, 9));
            call("cheapest");
            call("floors");
            for (int i = -1; i < 4; i++) call("look", i);
            call("free");
            call("halls", -1);
            call("halls", pick(-2, 4));
            call("inner");
            call("crosses");
            call("alike");
            call("currents", pick(-1, 13), pick(-1, 2));
            call("fitting", pick(0, 13));
            call("compare", pick(-2, 6));
            call("bare", pick(-1, 3));
            call("few", pick(0, 21), pick(-1, 100));
            for (int i = -1; i <= 19; i++) if (r.nextInt(4) == 0) call("count", i);
        }

        void step() {
            int n = model.w.rugs.size();
            switch (r.nextInt(22)) {
                case 0: case 1: call("carpet", number(1, pick(1, 4)), number(0, 3), number(0, 9)); break;
                case 2: if (r.nextInt(3) == 0) call("hall", number(1, 5), number(1, 5)); break;
                case 3: case 4: case 5: case 6: {
                    // Where it can lie, mostly: else few would ever be laid.
                    int c = number(0, Math.max(0, n - 1)), x = number(0, 5), y = number(0, 5);
                    long fx = call("bare", 1), fy = call("bare", 2);
                    if (r.nextInt(3) != 0 && fx >= 0) { x = (int) fx; y = (int) fy; }
                    call("lay", c, x, y);
                    break;
                }
                case 7: call("roll", number(0, 8)); break;
                case 8: call("mirror"); break;
                case 9: if (r.nextInt(2) == 0) call("pass"); break;
                case 10: for (int i = r.nextInt(4); i >= 0; i--) call("undo"); break;
                case 11: if (r.nextInt(2) == 0) call("terms", number(0, 2), r.nextInt(6) == 0 ? number(990, 999) : number(0, 10)); break;
                case 12: write(text(false)); call("law"); call("fault"); call("force", r.nextInt(4) == 0 ? number(-1, 5) : model.w.laws.size() - 1); break;
                case 13: case 14: case 15: write(text(true)); call("orders"); call("fault"); call("stopped"); call("count", 6); break;
                case 16: {
                    if (r.nextInt(2) == 0) break;
                    byte[] b = new byte[pick(0, 14)];
                    for (int i = 0; i < b.length; i++) b[i] = (byte) (r.nextInt(10) == 0 ? r.nextInt(256) : pick(0, 3));
                    write(b); call("row"); call("fluff");
                    break;
                }
                case 17: call("seen", number(0, 4), number(0, 4), number(1, 4)); if (r.nextInt(4) == 0) call("forget"); break;
                case 18: call("image", number(0, 1)); break;
                case 19: if (r.nextInt(3) == 0) call("back", number(0, 1)); break;
                case 20: {
                    call("years", r.nextInt(9) == 0 ? number(0, 5) : r.nextInt(1000001), number(1, 60));
                    for (int i = 0; i < 3; i++) call("drawn", pick(-1, 9), pick(-1, 3));
                    break;
                }
                default: {
                    call("of", number(0, 8), number(0, 5)); call("at", number(0, 5), number(0, 5));
                    call("asks", number(0, 8), number(0, 11), number(0, 11), number(0, 2));
                    for (int i = 0; i < n; i++) for (int k = 0; k < 6; k++) call("of", i, k);
                    if (r.nextBoolean()) call("force", pick(-1, model.w.laws.size()));
                }
            }
            call("status");
        }

        /** Carpets that fill the hall for sure: cut from it, then told in any order. */
        void cutHall() {
            int wide, high;
            List<Integer> sides;
            do {
                wide = pick(1, 7);
                high = pick(1, 7);
                sides = new ArrayList<>();
                boolean[][] cut = new boolean[high][wide];
                for (int y = 0; y < high; y++) for (int x = 0; x < wide; x++) {
                    if (cut[y][x]) continue;
                    int most = 1;
                    while (x + most < wide && !cut[y][x + most] && y + most < high) most++;
                    int side = r.nextInt(3) == 0 ? pick(1, most) : most;
                    for (int j = 0; j < side; j++) for (int i = 0; i < side; i++) cut[y + j][x + i] = true;
                    sides.add(side);
                }
            } while (sides.size() > 9);
            java.util.Collections.shuffle(sides, r);
            if (sides.size() < 9 && r.nextBoolean()) sides.add(pick(1, 3));
            call("hall", wide, high);
            for (int side : sides) call("carpet", side, pick(0, 3), pick(1, 9));
        }

        void layTheFill() {
            long length = call("fill", -1);
            int most = r.nextBoolean() ? (int) length : r.nextInt(9);
            for (int i = 0; i < most && i < length; i++) {
                int c = (int) call("fill", 0);
                if (c >= 0) call("lay", c, (int) call("bare", 1), (int) call("bare", 2));
            }
        }

        void go() {
            if (number % 2 == 0) {
                call("hall", pick(1, 5), pick(1, 5));
                int n = pick(0, 7);
                for (int i = 0; i < n; i++) call("carpet", pick(1, pick(1, 3)), pick(0, 3), pick(0, 9));
            } else {
                cutHall();
                if (r.nextBoolean()) call("image", 1);
            }
            for (int i = 0; i < 60 && calls < 470; i++) {
                step();
                if (r.nextInt(5) == 0) layTheFill();
                if (r.nextInt(3) == 0) askAll();
            }
        }
    }

    public static void main(String[] args) {
        int runs = args.length > 0 ? Integer.parseInt(args[0]) : 200;
        int from = args.length > 1 ? Integer.parseInt(args[1]) : 0;
        for (int i = from; i < from + runs && wrong < 10; i++) new Run(i).go();
        System.out.println(wrong == 0 ? "all answers are as due" : wrong + " answers are not as due");
        if (wrong != 0) System.exit(1);
    }
}
