import java.math.BigInteger;
import java.util.ArrayDeque;
import java.util.ArrayList;
import java.util.Arrays;
import java.util.List;
import java.util.regex.Pattern;

/**
 * The document told once more, as plainly as Java's library lets it be and without a thought for
 * speed; the class is compared with it. It shares no code with the class, and tries all where the
 * class leaves out what cannot matter.
 */
final class Model {
    static final int BAD = -1, NO = -2, FULL = -3, NONE = -4;
    static final String FIRST = "l000100;l000100;l020110;l000000;l030000;o0,2,1;o18,23,2;o24,29,3;"
        + "t0,1,3,7,6;t1,0,2,28,27,26;t3,2,5,5;";
    static final int[] DOWN = {-1, 0, 1, 0};
    static final int[] ALONG = {0, 1, 0, -1};

    static final class Trees {
        int kind;
        int heads;
        int bears;
        List<Integer> cells = new ArrayList<>();

        Trees again() {
            Trees t = new Trees();
            t.kind = kind;
            t.heads = heads;
            t.bears = bears;
            t.cells.addAll(cells);
            return t;
        }
    }

    static final class World {
        List<String> lines = new ArrayList<>();
        int[] owner = new int[100];
        List<Trees> rows = new ArrayList<>();
        boolean[] ditch = new boolean[100];
        boolean[] lone = new boolean[100];
        int year;
        int[] has = new int[4];

        World again() {
            World w = new World();
            w.lines.addAll(lines);
            w.owner = owner.clone();
            for (Trees t : rows) {
                w.rows.add(t.again());
            }
            w.ditch = ditch.clone();
            w.lone = lone.clone();
            w.year = year;
            w.has = has.clone();
            return w;
        }

        int width() {
            return lines.isEmpty() ? 0 : lines.get(0).length();
        }

        int cells() {
            return lines.size() * width();
        }

        char ground(int x) {
            return lines.get(x / width()).charAt(x % width());
        }

        int next(int x, int way) {
            int line = x / width() + DOWN[way];
            int column = x % width() + ALONG[way];
            boolean there = line >= 0 && line < lines.size() && column >= 0 && column < width();
            return there ? line * width() + column : NONE;
        }

        boolean areNext(int x, int y) {
            int down = Math.abs(x / width() - y / width());
            int along = Math.abs(x % width() - y % width());
            return down + along == 1;
        }

        int treeOf(int x) {
            if (lone[x]) {
                return 9;
            }
            for (int r = 0; r < rows.size(); r++) {
                if (rows.get(r).cells.contains(x)) {
                    return r;
                }
            }
            return NONE;
        }

        boolean isOpen(Trees t, int x) {
            if (x == NONE || ditch[x] || treeOf(x) != NONE) {
                return false;
            }
            return ground(x) == '0' || ground(x) == '1' || (ground(x) == '2' && t.kind == 3);
        }

        int wayOf(Trees t) {
            if (t.kind == 2 && year % 2 == 1) {
                return NONE;
            }
            int right = t.heads == 3 ? 0 : t.heads + 1;
            int left = t.heads == 0 ? 3 : t.heads - 1;
            int[] ways = t.kind == 1 ? new int[] {t.heads, left, right} : new int[] {t.heads, right, left};
            for (int way : ways) {
                if (isOpen(t, next(t.cells.get(0), way))) {
                    return way;
                }
            }
            return NONE;
        }

        void pass(int staying) {
            for (int r = 0; r < rows.size(); r++) {
                Trees t = rows.get(r);
                int way = r == staying ? NONE : wayOf(t);
                if (way == NONE) {
                    continue;
                }
                int x = next(t.cells.get(0), way);
                t.heads = way;
                t.cells.add(0, x);
                t.cells.remove(t.cells.size() - 1);
                if (ground(x) == '1') {
                    has[owner[x]]++;
                }
            }
            for (Trees t : rows) {
                for (int x : t.cells) {
                    has[owner[x]] += t.bears + (beside(x, t) ? 1 : 0);
                }
            }
            year++;
        }

        boolean beside(int x, Trees own) {
            for (Trees t : rows) {
                for (int y : t.cells) {
                    if (t != own && areNext(x, y)) {
                        return true;
                    }
                }
            }
            return false;
        }

        boolean canDig(int x) {
            return ground(x) == '0' && treeOf(x) == NONE && !ditch[x];
        }

        int leave(int r) {
            List<Integer> cells = rows.get(r).cells;
            int x = cells.remove(cells.size() - 1);
            lone[x] = true;
            return x;
        }

        int first(int r) {
            return rows.get(r).cells.get(0);
        }

        int ditches() {
            int n = 0;
            for (boolean d : ditch) {
                n += d ? 1 : 0;
            }
            return n;
        }

        World behind(int n) {
            World w = again();
            for (int i = 0; i < n; i++) {
                w.pass(NONE);
            }
            return w;
        }
    }

    private String text = "";
    private World now = read(FIRST);
    private final ArrayDeque<World> undo = new ArrayDeque<>();
    private final ArrayDeque<World> kept = new ArrayDeque<>();
    private final List<int[]> seen = new ArrayList<>();
    private int faultAt;

    private World read(String from) {
        World w = new World();
        faultAt = NONE;
        int at = 0;
        while (at < from.length()) {
            int end = from.indexOf(';', at);
            if (end < 0 || !take(w, from.substring(at, end))) {
                faultAt = at;
                return null;
            }
            at = end + 1;
        }
        return w;
    }

    private static boolean take(World w, String item) {
        if (Pattern.matches("l[0-3]{1,6}", item)) {
            String line = item.substring(1);
            if (w.lines.size() == 6 || (!w.lines.isEmpty() && w.width() != line.length())) {
                return false;
            }
            return w.lines.add(line);
        }
        if (Pattern.matches("o[0-9]{1,2}(,[0-9]{1,2}){2}", item)) {
            int[] n = Arrays.stream(item.substring(1).split(",")).mapToInt(Integer::parseInt).toArray();
            if (n[1] >= w.cells() || n[0] > n[1] || n[2] > 3) {
                return false;
            }
            Arrays.fill(w.owner, n[0], n[1] + 1, n[2]);
            return true;
        }
        if (Pattern.matches("t[0-9]{1,2}(,[0-9]{1,2}){3,6}", item)) {
            return takeTrees(w, Arrays.stream(item.substring(1).split(",")).mapToInt(Integer::parseInt).toArray());
        }
        return false;
    }

    private static boolean takeTrees(World w, int[] n) {
        if (w.rows.size() == 3 || n[0] > 3 || n[1] > 3 || n[2] > 9) {
            return false;
        }
        Trees t = new Trees();
        t.kind = n[0];
        t.heads = n[1];
        t.bears = n[2];
        for (int i = 3; i < n.length; i++) {
            int x = n[i];
            if (x >= w.cells() || w.ground(x) > '1' || w.treeOf(x) != NONE || t.cells.contains(x)) {
                return false;
            }
            if (i > 3 && !w.areNext(x, n[i - 1])) {
                return false;
            }
            t.cells.add(x);
        }
        return w.rows.add(t);
    }

    private boolean isCell(int x) {
        return x >= 0 && x < now.cells();
    }

    private boolean isRow(int r) {
        return r >= 0 && r < now.rows.size();
    }

    private static boolean in(int n, int low, int high) {
        return low <= n && n <= high;
    }

    private void remember() {
        undo.addLast(now.again());
        if (undo.size() > 8) {
            undo.removeFirst();
        }
    }

    int write(int letter) {
        if (!in(letter, 32, 126)) {
            return BAD;
        }
        if (text.length() == 200) {
            return FULL;
        }
        text += (char) letter;
        return text.length();
    }

    int wipe() {
        int n = text.length();
        text = "";
        return n;
    }

    int fault() {
        read(text);
        return faultAt;
    }

    int lay() {
        World w = read(text);
        if (w == null || w.cells() == 0 || w.rows.isEmpty()) {
            return NO;
        }
        now = w;
        undo.clear();
        kept.clear();
        seen.clear();
        return w.rows.size();
    }

    int cell(int x, int what) {
        if (!isCell(x) || !in(what, 0, 3)) {
            return BAD;
        }
        return new int[] {now.ground(x) - '0', now.owner[x], now.ditch[x] ? 1 : 0, now.treeOf(x)}[what];
    }

    int row(int r, int what) {
        if (!isRow(r) || !in(what, 0, 4)) {
            return BAD;
        }
        Trees t = now.rows.get(r);
        int way = now.wayOf(t);
        int next = way == NONE ? NONE : now.next(t.cells.get(0), way);
        return new int[] {t.kind, t.heads, t.bears, t.cells.size(), next}[what];
    }

    int tree(int r, int k) {
        if (!isRow(r) || !in(k, 0, 3)) {
            return BAD;
        }
        List<Integer> cells = now.rows.get(r).cells;
        return k < cells.size() ? cells.get(k) : NONE;
    }

    int has(int p) {
        return in(p, 0, 3) ? now.has[p] : BAD;
    }

    int pass(int n) {
        if (!in(n, 1, 20)) {
            return BAD;
        }
        remember();
        now = now.behind(n);
        return now.year;
    }

    int dig(int x) {
        if (!isCell(x)) {
            return BAD;
        }
        if (!now.canDig(x)) {
            return NO;
        }
        remember();
        now.ditch[x] = true;
        return now.ditches();
    }

    int fill(int x) {
        if (!isCell(x)) {
            return BAD;
        }
        if (!now.ditch[x]) {
            return NO;
        }
        remember();
        now.ditch[x] = false;
        return now.ditches();
    }

    int leave(int r) {
        if (!isRow(r)) {
            return BAD;
        }
        if (now.rows.get(r).cells.size() == 1) {
            return NO;
        }
        remember();
        return now.leave(r);
    }

    int undo() {
        if (undo.isEmpty()) {
            return NO;
        }
        now = undo.removeLast();
        return undo.size();
    }

    int behind(int n, int r) {
        return in(n, 0, 60) && isRow(r) ? now.behind(n).first(r) : BAD;
    }

    int wealth(int n, int p) {
        return in(n, 0, 60) && in(p, 0, 3) ? now.behind(n).has[p] : BAD;
    }

    int comes(int r, int x) {
        if (!isRow(r) || !isCell(x)) {
            return BAD;
        }
        for (int n = 0; n <= 60; n++) {
            if (now.behind(n).first(r) == x) {
                return n;
            }
        }
        return NONE;
    }

    int meet(int r, int q) {
        if (!isRow(r) || !isRow(q) || r == q) {
            return BAD;
        }
        for (int n = 0; n <= 60; n++) {
            World w = now.behind(n);
            for (int x : w.rows.get(r).cells) {
                for (int y : w.rows.get(q).cells) {
                    if (w.areNext(x, y)) {
                        return n;
                    }
                }
            }
        }
        return NONE;
    }

    int again() {
        World w = now.again();
        for (int n = 1; n <= 200; n++) {
            w.pass(NONE);
            boolean alike = true;
            for (int r = 0; r < w.rows.size(); r++) {
                Trees a = now.rows.get(r);
                Trees b = w.rows.get(r);
                alike &= a.cells.equals(b.cells) && a.heads == b.heads && (a.kind != 2 || n % 2 == 0);
            }
            if (alike) {
                return n;
            }
        }
        return NONE;
    }

    int ditches(int r, int x, int n, int k) {
        if (!isRow(r) || !isCell(x) || !in(n, 1, 20) || !in(k, -1, 1)) {
            return BAD;
        }
        for (int[] set : sets()) {
            World w = now.again();
            for (int d : set) {
                w.ditch[d] = true;
            }
            if (w.behind(n).first(r) == x) {
                return k == -1 ? set.length : k < set.length ? set[k] : NONE;
            }
        }
        return NONE;
    }

    /** All sets of none to two cells that can be dug, in the order in which they are asked for. */
    private List<int[]> sets() {
        List<int[]> sets = new ArrayList<>();
        List<int[]> pairs = new ArrayList<>();
        sets.add(new int[0]);
        for (int a = 0; a < now.cells(); a++) {
            if (now.canDig(a)) {
                sets.add(new int[] {a});
                for (int b = a + 1; b < now.cells(); b++) {
                    if (now.canDig(b)) {
                        pairs.add(new int[] {a, b});
                    }
                }
            }
        }
        sets.addAll(pairs);
        return sets;
    }

    int best(int p, int n, int what) {
        if (!in(p, 0, 3) || !in(n, 1, 20) || !in(what, 0, 1)) {
            return BAD;
        }
        int[] answer = {NONE, NONE};
        for (int x = now.cells() - 1; x >= 0; x--) {
            if (now.canDig(x)) {
                World w = now.again();
                w.ditch[x] = true;
                int has = w.behind(n).has[p];
                if (answer[0] == NONE || has >= answer[1]) {
                    answer = new int[] {x, has};
                }
            }
        }
        return answer[what];
    }

    int see(int r, int x, int t) {
        if (!isRow(r) || !isCell(x) || !in(t, 0, 20)) {
            return BAD;
        }
        if (seen.size() == 6) {
            return FULL;
        }
        seen.add(new int[] {r, x, t});
        return seen.size();
    }

    int forget() {
        int n = seen.size();
        seen.clear();
        return n;
    }

    int fits(int r, int what) {
        if (!isRow(r) || !in(what, 0, 1)) {
            return BAD;
        }
        int bits = 0;
        for (int v = 0; v < 4; v++) {
            boolean so = true;
            for (int[] s : seen) {
                World w = now.again();
                if (what == 0) {
                    w.rows.get(r).heads = v;
                } else {
                    w.rows.get(r).kind = v;
                }
                so &= s[0] != r || w.behind(s[2]).first(r) == s[1];
            }
            bits += so ? 1 << v : 0;
        }
        return bits;
    }

    int frost(int r, int cell, int n, int x, int part) {
        if (!isRow(r) || !isCell(cell) || !in(n, 0, 8) || !in(x, 0, 10) || !in(part, 0, 1)) {
            return BAD;
        }
        BigInteger above = cases(now, r, cell, n, x);
        BigInteger below = BigInteger.TEN.pow(n);
        BigInteger both = above.gcd(below);
        return (part == 0 ? above : below).divide(both).intValueExact();
    }

    private static BigInteger cases(World w, int r, int cell, int n, int x) {
        if (n == 0) {
            return w.first(r) == cell ? BigInteger.ONE : BigInteger.ZERO;
        }
        World stays = w.again();
        stays.pass(r);
        World goes = w.again();
        goes.pass(NONE);
        return cases(stays, r, cell, n - 1, x).multiply(BigInteger.valueOf(x))
            .add(cases(goes, r, cell, n - 1, x).multiply(BigInteger.valueOf(10 - x)));
    }

    int century(int z, int n, int what) {
        if (!in(z, 0, 9999) || !in(n, 1, 60) || !in(what, 0, 1)) {
            return BAD;
        }
        World w = now.again();
        for (int k = 0; k < n; k++) {
            BigInteger x = BigInteger.valueOf(7919).multiply(BigInteger.valueOf(z))
                .add(BigInteger.valueOf(6151).multiply(BigInteger.valueOf(k))).add(BigInteger.ONE);
            int draw = x.multiply(x).mod(BigInteger.valueOf(65521)).intValueExact();
            int x8 = draw / 8;
            int kind = draw % 8;
            if (kind <= 1 && w.canDig(x8 % w.cells())) {
                w.ditch[x8 % w.cells()] = true;
            }
            if (kind == 2) {
                w.ditch[x8 % w.cells()] = false;
            }
            if (kind == 3 && w.rows.get(x8 % w.rows.size()).cells.size() > 1) {
                w.leave(x8 % w.rows.size());
            }
            w.pass(NONE);
        }
        return what == 0 ? Arrays.stream(w.has).sum() : w.ditches();
    }

    int keep() {
        if (kept.size() == 2) {
            return FULL;
        }
        kept.addLast(now.again());
        return kept.size();
    }

    int back() {
        if (kept.isEmpty()) {
            return NO;
        }
        now = kept.removeLast();
        undo.clear();
        return kept.size();
    }

    int count(int what) {
        int trees = 0;
        for (Trees t : now.rows) {
            trees += t.cells.size();
        }
        int lone = 0;
        for (boolean l : now.lone) {
            lone += l ? 1 : 0;
        }
        int[] counts = {now.cells(), now.width(), now.rows.size(), now.year, trees, lone, now.ditches(),
            Arrays.stream(now.has).sum(), seen.size(), undo.size(), kept.size(), text.length()};
        return in(what, 0, 11) ? counts[what] : BAD;
    }
}
