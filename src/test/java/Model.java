import java.util.ArrayList;
import java.util.List;

/**
 * The document once more, written for plainness alone and unlike the class wherever that can be: lists for each
 * holder, whole copies, every way tried and compared. ModelTest holds the class against it.
 */
final class Model {
    static final int NONE = -1, UNKNOWN = -2, OUTSIDE = -3, NOT = -4, FULL = -5;
    static final int NULL = -11, INDEX = -12, VOID = -13, LINE = -14, EMPTY = -15, CAST = -16, SIZE = -17;
    private static final List<String> KINDS = List.of("will", "pay", "short", "shun", "ever");

    /** All that a text tells and a year changes. */
    private static final class World {
        final List<int[]> men = new ArrayList<>();        // strength, span, heir
        final List<int[]> vows = new ArrayList<>();       // kind, work, done, needs, 1: kept
        final List<List<Integer>> held = new ArrayList<>();
        final List<Integer> cat = new ArrayList<>();
        final List<int[]> strife = new ArrayList<>();
        int year;

        World copy() {
            World w = new World();
            men.forEach(m -> w.men.add(m.clone()));
            vows.forEach(v -> w.vows.add(v.clone()));
            held.forEach(h -> w.held.add(new ArrayList<>(h)));
            w.cat.addAll(cat);
            strife.forEach(s -> w.strife.add(s.clone()));
            w.year = year;
            return w;
        }

        List<Integer> of(int who) {
            return who == 5 || who == NONE ? cat : held.get(who);
        }

        int holder(int p) {
            for (int m = 0; m < held.size(); m++) {
                if (held.get(m).contains(p)) {
                    return m;
                }
            }
            return cat.contains(p) ? 5 : NONE;
        }

        boolean open(int p) {
            int[] v = vows.get(p);
            boolean is = v[4] == 0 && v[0] < 3;
            for (int q = 0; q < vows.size(); q++) {
                is &= (v[3] & 1 << q) == 0 || vows.get(q)[4] == 1;
            }
            return is;
        }

        void passYear() {
            World ahead = copy();
            for (int m = 0; m < men.size(); m++) {
                if (ahead.men.get(m)[1] == 0) {
                    continue;
                }
                for (Integer p : ahead.held.get(m)) {
                    if (ahead.open(p)) {
                        int[] v = vows.get(p);
                        v[2] += does(v[0], men.get(m)[0]);
                        if (v[2] >= v[1]) {
                            v[2] = v[1];
                            v[4] = 1;
                            held.get(m).remove(p);
                        }
                        break;
                    }
                }
            }
            List<Integer> dying = new ArrayList<>();
            for (int m = 0; m < men.size(); m++) {
                if (men.get(m)[1] > 0 && --men.get(m)[1] == 0) {
                    dying.add(m);
                }
            }
            for (int m : dying) {
                int heir = men.get(m)[2];
                List<Integer> to = heir >= 0 && men.get(heir)[1] != 0 ? held.get(heir) : cat;
                for (int p : held.get(m)) {
                    if (vows.get(p)[0] == 3) {
                        vows.get(p)[4] = 1;
                    } else {
                        to.add(p);
                    }
                }
                held.get(m).clear();
            }
            year++;
        }

        int keptBehind(int n) {
            World w = copy();
            for (int i = 0; i < n; i++) {
                w.passYear();
            }
            int kept = 0;
            for (int[] v : w.vows) {
                kept += v[4];
            }
            return kept;
        }

        void give(Integer p, int to) {
            of(holder(p)).remove(p);
            of(to).add(p);
        }
    }

    private World told = new World(), now = new World();
    private String text = "";
    private final List<World> past = new ArrayList<>();
    private final World[] kept = new World[2];
    private final List<int[]> seen = new ArrayList<>();
    private final int[][][][] registers = new int[3][][][];
    private int clauses;
    private World drafted;

    static int does(int kind, int s) {
        return kind == 0 ? s : kind == 1 ? s / 2 + 1 : kind == 2 ? 2 * s : 0;
    }

    private boolean man(int m) {
        return m >= 0 && m < now.men.size();
    }

    private boolean vow(int p) {
        return p >= 0 && p < now.vows.size();
    }

    private static boolean in(int v, int low, int high) {
        return low <= v && v <= high;
    }

    int write(int letter) {
        if (!in(letter, 0, 255)) {
            return OUTSIDE;
        }
        if (text.length() == 200) {
            return FULL;
        }
        text += (char) letter;
        return text.length();
    }

    int erase() {
        int had = text.length();
        text = "";
        return had;
    }

    int fault() {
        List<String> tokens = new ArrayList<>();
        List<Integer> places = new ArrayList<>();
        java.util.regex.Matcher m = java.util.regex.Pattern.compile("(?s)[a-z]+|[0-9]+|[^ ]").matcher(text);
        while (m.find()) {
            tokens.add(m.group());
            places.add(m.start());
        }
        tokens.add("");
        places.add(text.length());
        drafted = told.copy();
        clauses = 0;
        int at = 0;
        while (true) {
            int next = clause(tokens, at);
            if (next < 0) {
                return places.get(-next - 1);
            }
            clauses++;
            if (tokens.get(next).isEmpty()) {
                return NONE;
            }
            if (!tokens.get(next).equals(";") || clauses == 24) {
                return places.get(next);
            }
            at = next + 1;
        }
    }

    private static int number(String token, int low, int high) {
        if (!token.matches("[0-9]{1,2}")) {
            return NONE;
        }
        int v = Integer.parseInt(token);
        return in(v, low, high) ? v : NONE;
    }

    /** Where the clause's next token is; or, at a fault, -1 less the token's place among all. */
    private int clause(List<String> t, int at) {
        World d = drafted;
        String word = t.get(at);
        if (word.equals("parish")) {
            drafted = new World();
            return at + 1;
        }
        if (word.equals("man") && d.men.size() < 5) {
            int s = number(t.get(at + 1), 1, 9);
            if (s < 0) {
                return -(at + 1) - 1;
            }
            int y = number(t.get(at + 2), 1, 60);
            if (y < 0) {
                return -(at + 2) - 1;
            }
            boolean more = t.get(at + 3).matches("[0-9]+");
            int heir = more ? number(t.get(at + 3), 0, d.men.size() - 1) : NONE;
            if (more && heir < 0) {
                return -(at + 3) - 1;
            }
            d.men.add(new int[] {s, y, heir});
            d.held.add(new ArrayList<>());
            return at + (more ? 4 : 3);
        }
        if (word.equals("strife")) {
            int a = number(t.get(at + 1), 0, d.vows.size() - 1);
            if (a < 0) {
                return -(at + 1) - 1;
            }
            int b = number(t.get(at + 2), 0, d.vows.size() - 1);
            if (b < 0 || a == b) {
                return -(at + 2) - 1;
            }
            d.strife.add(new int[] {a, b});
            return at + 3;
        }
        if (KINDS.contains(word) && d.vows.size() < 10) {
            int p = number(t.get(at + 1), 0, d.men.size() - 1);
            if (p < 0) {
                return -(at + 1) - 1;
            }
            int w = number(t.get(at + 2), 1, 40);
            if (w < 0) {
                return -(at + 2) - 1;
            }
            String needs = t.get(at + 3);
            boolean more = needs.matches("[a-z]+");
            int bits = 0;
            for (int i = 0; more && i < needs.length(); i++) {
                int q = needs.charAt(i) - 'a';
                if (q >= d.vows.size() || i > 0 && needs.charAt(i - 1) >= needs.charAt(i)) {
                    return -(at + 3) - 1;
                }
                bits += 1 << q;
            }
            d.held.get(p).add(d.vows.size());
            d.vows.add(new int[] {KINDS.indexOf(word), w, 0, bits, 0});
            return at + (more ? 4 : 3);
        }
        return -at - 1;
    }

    int parish() {
        if (fault() != NONE) {
            return NOT;
        }
        told = drafted;
        now = told.copy();
        text = "";
        past.clear();
        kept[0] = null;
        kept[1] = null;
        seen.clear();
        for (int r = 0; r < 3; r++) {
            registers[r] = null;
        }
        return clauses;
    }

    int person(int m, int what) {
        if (!man(m)) {
            return UNKNOWN;
        }
        if (!in(what, 0, 3)) {
            return OUTSIDE;
        }
        return what < 3 ? now.men.get(m)[what] : now.held.get(m).size();
    }

    int holds(int m, int k) {
        if (m != NONE && !man(m)) {
            return UNKNOWN;
        }
        if (k < 0) {
            return OUTSIDE;
        }
        return k < now.of(m).size() ? now.of(m).get(k) : NONE;
    }

    int promise(int p, int what) {
        if (!vow(p)) {
            return UNKNOWN;
        }
        if (!in(what, 0, 5)) {
            return OUTSIDE;
        }
        return what < 4 ? now.vows.get(p)[what] : what == 4 ? now.holder(p) : now.open(p) ? 1 : 0;
    }

    int as(int p, int kind) {
        if (!vow(p)) {
            return UNKNOWN;
        }
        if (!in(kind, 0, 5)) {
            return OUTSIDE;
        }
        int own = now.vows.get(p)[0];
        List<List<Integer>> over = List.of(List.of(0, 1), List.of(0, 1, 2), List.of(0, 1, 3), List.of(0, 4), List.of(0, 4, 5));
        return over.get(own).contains(kind) ? does(own, 5) : NOT;
    }

    private void remember() {
        past.add(now.copy());
        if (past.size() > 8) {
            past.remove(0);
        }
    }

    int year(int n) {
        if (!in(n, 1, 12)) {
            return OUTSIDE;
        }
        if (now.year + n > 999) {
            return FULL;
        }
        remember();
        for (int i = 0; i < n; i++) {
            now.passYear();
        }
        return now.year;
    }

    int give(int p, int m) {
        if (!vow(p) || m != NONE && !man(m)) {
            return UNKNOWN;
        }
        int was = now.holder(p);
        if (was == NONE || was == (m == NONE ? 5 : m) || m != NONE && now.men.get(m)[1] == 0) {
            return NOT;
        }
        remember();
        now.give(p, m);
        return was;
    }

    int shorten(int p) {
        if (!vow(p)) {
            return UNKNOWN;
        }
        int[] v = now.vows.get(p);
        if (v[4] == 1 || (v[1] - v[2]) / 2 == 0) {
            return NOT;
        }
        remember();
        v[1] -= (v[1] - v[2]) / 2;
        return v[1];
    }

    int ahead(Integer p) {
        if (!vow(p)) {
            return UNKNOWN;
        }
        if (now.vows.get(p)[4] == 1) {
            return NOT;
        }
        int place = now.of(now.holder(p)).indexOf(p);
        if (place == 0) {
            return NOT;
        }
        remember();
        List<Integer> all = now.of(now.holder(p));
        all.remove(p);
        all.add(0, p);
        return place;
    }

    int undo() {
        if (past.isEmpty()) {
            return NOT;
        }
        now = past.remove(past.size() - 1);
        return past.size();
    }

    int keep(int k) {
        if (!in(k, 0, 1)) {
            return UNKNOWN;
        }
        kept[k] = now.copy();
        return now.year;
    }

    int back(int k) {
        if (!in(k, 0, 1)) {
            return UNKNOWN;
        }
        if (kept[k] == null) {
            return NOT;
        }
        now = kept[k].copy();
        past.clear();
        return now.year;
    }

    int behind(int p, int n, int what) {
        if (!vow(p)) {
            return UNKNOWN;
        }
        if (!in(n, 0, 60) || !in(what, 0, 1)) {
            return OUTSIDE;
        }
        World w = now.copy();
        for (int i = 0; i < n; i++) {
            w.passYear();
        }
        return what == 0 ? w.vows.get(p)[2] : w.holder(p);
    }

    int keeps(int p) {
        if (!vow(p)) {
            return UNKNOWN;
        }
        for (int n = 0; n <= 60; n++) {
            if (behind(p, n, 1) == NONE) {
                return n;
            }
        }
        return NONE;
    }

    int just(int m) {
        if (!man(m)) {
            return UNKNOWN;
        }
        World w = now.copy();
        for (int n = 0; n <= 60; n++) {
            if (w.held.get(m).isEmpty() && w.men.get(m)[1] != 0) {
                return n;
            }
            w.passYear();
        }
        return NONE;
    }

    int stuck() {
        int all = 0;
        for (int round = 0; round < 11; round++) {
            for (int p = 0; p < now.vows.size(); p++) {
                int[] v = now.vows.get(p);
                if (v[4] == 0 && (v[0] == 4 || v[0] < 3 && (v[3] & all) != 0)) {
                    all |= 1 << p;
                }
            }
        }
        return all;
    }

    private static void permute(List<Integer> rest, List<Integer> done, List<List<Integer>> out) {
        if (rest.isEmpty()) {
            out.add(new ArrayList<>(done));
        }
        for (Integer p : rest) {
            List<Integer> less = new ArrayList<>(rest);
            less.remove(p);
            done.add(p);
            permute(less, done, out);
            done.remove(done.size() - 1);
        }
    }

    private static boolean before(List<Integer> a, List<Integer> b) {
        for (int i = 0; i < a.size(); i++) {
            if (!a.get(i).equals(b.get(i))) {
                return a.get(i) < b.get(i);
            }
        }
        return false;
    }

    int order(int m, int n, int k) {
        if (!man(m)) {
            return UNKNOWN;
        }
        if (!in(n, 1, 30) || k < NONE) {
            return OUTSIDE;
        }
        if (now.held.get(m).size() > 5) {
            return NONE;
        }
        List<List<Integer>> all = new ArrayList<>();
        permute(now.held.get(m), new ArrayList<>(), all);
        int most = NONE;
        List<Integer> best = null;
        for (List<Integer> one : all) {
            World w = now.copy();
            w.held.set(m, new ArrayList<>(one));
            int many = w.keptBehind(n);
            if (many > most || many == most && before(one, best)) {
                most = many;
                best = one;
            }
        }
        return k == NONE ? most : k < best.size() ? best.get(k) : NONE;
    }

    int godfathers(int n, int k) {
        if (!in(n, 0, 30) || !in(k, NONE, 2)) {
            return OUTSIDE;
        }
        int size = Math.min(3, now.cat.size());
        int most = NONE;
        List<Integer> best = null;
        int men = now.men.size();
        for (int a = NONE; a < (size > 0 ? men : 0); a++) {
            for (int b = NONE; b < (size > 1 ? men : 0); b++) {
                for (int c = NONE; c < (size > 2 ? men : 0); c++) {
                    List<Integer> one = List.of(a, b, c);
                    World w = now.copy();
                    boolean can = true;
                    for (int j = 0; j < 3; j++) {
                        if (one.get(j) != NONE) {
                            can &= now.men.get(one.get(j))[1] != 0;
                            w.give(now.cat.get(j), one.get(j));
                        }
                    }
                    int many = can ? w.keptBehind(n) : NONE;
                    if (many > most || can && many == most && before(one, best)) {
                        most = many;
                        best = one;
                    }
                }
            }
        }
        return k == NONE ? most : best.get(k);
    }

    int peace() {
        int best = 0;
        for (int set = (1 << now.vows.size()) - 1; set >= 0; set--) {
            boolean fine = true;
            for (int[] s : now.strife) {
                fine &= (set & 1 << s[0]) == 0 || (set & 1 << s[1]) == 0;
            }
            if (fine && Integer.bitCount(set) >= Integer.bitCount(best)) {
                best = set;
            }
        }
        return best;
    }

    int idle(int n, int q, int m, int part) {
        if (!in(n, 0, 9) || !in(q, 0, 10) || !in(m, 0, 9) || !in(part, 0, 1)) {
            return OUTSIDE;
        }
        java.math.BigInteger[] ways = new java.math.BigInteger[11];
        java.util.Arrays.fill(ways, java.math.BigInteger.ZERO);
        ways[0] = java.math.BigInteger.ONE;
        for (int y = 0; y < n; y++) {
            for (int w = 10; w >= 0; w--) {
                ways[w] = ways[w].multiply(java.math.BigInteger.valueOf(q))
                    .add(w == 0 ? java.math.BigInteger.ZERO : ways[w - 1].multiply(java.math.BigInteger.valueOf(10 - q)));
            }
        }
        java.math.BigInteger above = java.math.BigInteger.ZERO;
        for (int w = m; w <= 10; w++) {
            above = above.add(ways[w]);
        }
        java.math.BigInteger below = java.math.BigInteger.TEN.pow(n);
        java.math.BigInteger gcd = above.gcd(below);
        return (part == 0 ? above : below).divide(gcd).intValueExact();
    }

    int seen(int s, int n, int d) {
        if (!in(s, 1, 9) || !in(n, 1, 9) || !in(d, 0, 200)) {
            return OUTSIDE;
        }
        if (seen.size() == 6) {
            return FULL;
        }
        seen.add(new int[] {s, n, d});
        return seen.size();
    }

    int forget() {
        int had = seen.size();
        seen.clear();
        return had;
    }

    int kinds() {
        int bits = 31;
        for (int[] s : seen) {
            for (int kind = 0; kind < 5; kind++) {
                if (does(kind, s[0]) * s[1] != s[2]) {
                    bits &= ~(1 << kind);
                }
            }
        }
        return bits;
    }

    int attempt() {
        int best = NONE;
        int least = Integer.MAX_VALUE;
        for (int s = 9; s >= 1; s--) {
            int[] parts = new int[20];
            int parted = 0;
            int greatest = 0;
            for (int kind = 0; kind < 5; kind++) {
                if ((kinds() & 1 << kind) != 0) {
                    int part = ++parts[does(kind, s)];
                    parted += part == 1 ? 1 : 0;
                    greatest = Math.max(greatest, part);
                }
            }
            if (parted > 1 && greatest <= least) {
                least = greatest;
                best = s;
            }
        }
        return best;
    }

    private static boolean register(int r) {
        return in(r, 0, 2);
    }

    int register(int r, int n) {
        if (!register(r)) {
            return UNKNOWN;
        }
        if (n > 5) {
            return OUTSIDE;
        }
        if (n < 0) {
            return SIZE;
        }
        registers[r] = new int[n][][];
        return n;
    }

    int page(int r, int p, int n) {
        if (!register(r)) {
            return UNKNOWN;
        }
        if (n > 6) {
            return OUTSIDE;
        }
        int flaw = flaw(r, p);
        if (flaw != 0) {
            return flaw;
        }
        if (n < 0) {
            return SIZE;
        }
        registers[r][p] = new int[n][];
        return n;
    }

    private int flaw(int r, int p) {
        return registers[r] == null ? NULL : !in(p, 0, registers[r].length - 1) ? INDEX : 0;
    }

    private int flaw(int r, int p, int i) {
        int flaw = flaw(r, p);
        return flaw != 0 ? flaw : registers[r][p] == null ? VOID : !in(i, 0, registers[r][p].length - 1) ? LINE : 0;
    }

    private int either(int one, int other) {
        return one == 0 || other == 0 ? Math.min(one, other) : Math.max(one, other);
    }

    int bind(int from, int p, int to, int q) {
        if (!register(from) || !register(to)) {
            return UNKNOWN;
        }
        int flaw = either(flaw(from, p), flaw(to, q));
        if (flaw != 0) {
            return flaw;
        }
        registers[to][q] = registers[from][p];
        return 1;
    }

    int same(int one, int p, int other, int q) {
        if (!register(one) || !register(other)) {
            return UNKNOWN;
        }
        int flaw = either(flaw(one, p), flaw(other, q));
        if (flaw != 0) {
            return flaw;
        }
        if (registers[one][p] == null || registers[other][q] == null) {
            return VOID;
        }
        return registers[one][p] == registers[other][q] ? 1 : 0;
    }

    int enter(int r, int p, int i, int what, int v) {
        if (!register(r) || what == 1 && !vow(v)) {
            return UNKNOWN;
        }
        if (!in(what, 0, 2) || what == 0 && !in(v, -9999, 9999)) {
            return OUTSIDE;
        }
        int flaw = flaw(r, p, i);
        if (flaw != 0) {
            return flaw;
        }
        registers[r][p][i] = what == 2 ? null : new int[] {what, v};
        return 1;
    }

    int read(int r, int p, int i, int what) {
        if (!register(r)) {
            return UNKNOWN;
        }
        if (!in(what, 0, 1)) {
            return OUTSIDE;
        }
        int flaw = flaw(r, p, i);
        if (flaw != 0) {
            return flaw;
        }
        int[] line = registers[r][p][i];
        return line == null ? EMPTY : line[0] != what ? CAST : line[1] + (what == 0 ? 50000 : 0);
    }

    int pages(int r, int what) {
        if (!register(r)) {
            return UNKNOWN;
        }
        if (!in(what, 0, 3)) {
            return OUTSIDE;
        }
        if (registers[r] == null) {
            return NULL;
        }
        int there = 0;
        int filled = 0;
        java.util.Set<Object> unlike = java.util.Collections.newSetFromMap(new java.util.IdentityHashMap<>());
        for (int[][] page : registers[r]) {
            there += page == null ? 0 : 1;
            if (page != null && unlike.add(page)) {
                for (int[] line : page) {
                    filled += line == null ? 0 : 1;
                }
            }
        }
        return new int[] {registers[r].length, there, unlike.size(), filled}[what];
    }

    int drop(int r) {
        if (!register(r)) {
            return UNKNOWN;
        }
        if (registers[r] == null) {
            return NULL;
        }
        int had = registers[r].length;
        registers[r] = null;
        return had;
    }

    int count(int what) {
        int dead = 0;
        int keptOnes = 0;
        int done = 0;
        int there = 0;
        for (int m = 0; m < now.men.size(); m++) {
            dead |= now.men.get(m)[1] == 0 ? 1 << m : 0;
        }
        for (int p = 0; p < now.vows.size(); p++) {
            keptOnes |= now.vows.get(p)[4] << p;
            done += now.vows.get(p)[2];
        }
        for (int[][][] r : registers) {
            there += r == null ? 0 : 1;
        }
        int[] all = {now.men.size(), now.vows.size(), now.year, dead, keptOnes, now.cat.size(), done, seen.size(), there,
            past.size(), text.length()};
        return in(what, 0, 10) ? all[what] : OUTSIDE;
    }
}
