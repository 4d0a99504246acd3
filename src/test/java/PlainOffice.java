import java.util.ArrayList;
import java.util.Arrays;
import java.util.HashSet;
import java.util.List;
import java.util.Set;
import java.util.regex.Matcher;
import java.util.regex.Pattern;

/** The document's words once more, as plainly as can be: every answer is worked out anew from what was told. */
final class PlainOffice {
    private static final int BAD = -1, FULL = -2, FINDING = -3, STATE = -4, BARRED = -5, NONE = -9;
    private static final Pattern PIECE = Pattern.compile("[a-zA-Z0-9]+");

    private record Square(int x, int y, int week) { }

    private record Move(int square, int a, int b, int c) { }

    private record Notice(int kind, int words, Set<Integer> at, int times, Set<Integer> marks, int day) { }

    private record Cry(int notice, int crier, int square, int day, int minute, boolean counts) { }

    private record Stay(int person, int square, int day, int from, int to) { }

    private final List<Square> squares = new ArrayList<>();
    private final List<Move> moves = new ArrayList<>();
    private final List<Notice> notices = new ArrayList<>();
    private final Set<Integer> back = new HashSet<>();
    private final List<Integer> homes = new ArrayList<>();
    private final List<Cry> cries = new ArrayList<>();
    private final List<Stay> stays = new ArrayList<>();
    private final List<Integer> found = new ArrayList<>();
    private final byte[][] sheets = new byte[4][];
    private final int[] rates = {1, 1, 1, 1, 1, 1};
    private List<String> barred = List.of();
    private List<Integer> way = List.of();
    private int wayWalk;
    private int today = 0;
    private int near = 5;

    private static boolean out(int v, int from, int to) {
        return v < from || v > to;
    }

    private static boolean none(int i, List<?> of) {
        return out(i, 0, of.size() - 1);
    }

    private static Set<Integer> bits(int v) {
        Set<Integer> set = new HashSet<>();
        for (int i = 0; i < 32; i++) {
            if ((v & 1 << i) != 0) {
                set.add(i);
            }
        }
        return set;
    }

    private boolean noSquares(int v) {
        return bits(v).stream().anyMatch(s -> none(s, squares));
    }

    private int find(int f) {
        found.add(f);
        return FINDING;
    }

    public int square(int x, int y, int week) {
        if (out(x, 0, 60) || out(y, 0, 60) || out(week, 0, 127)) {
            return BAD;
        }
        if (squares.size() == 10) {
            return FULL;
        }
        squares.add(new Square(x, y, week));
        return squares.size() - 1;
    }

    public int walk(int a, int b) {
        if (none(a, squares) || none(b, squares)) {
            return BAD;
        }
        Square p = squares.get(a);
        Square q = squares.get(b);
        return Math.max(p.x, q.x) - Math.min(p.x, q.x) + Math.max(p.y, q.y) - Math.min(p.y, q.y);
    }

    public int hearing(int h) {
        if (out(h, 0, 60)) {
            return BAD;
        }
        if (cries.stream().anyMatch(c -> c.day == today)) {
            return STATE;
        }
        int was = near;
        near = h;
        return was;
    }

    public int later(int n) {
        if (out(n, 1, 400) || out(today + n, 0, 400)) {
            return BAD;
        }
        today += n;
        return today;
    }

    public int move(int square, int a, int b, int c) {
        if (none(square, squares) || out(a, 0, 500) || out(b, 0, 500) || out(c, 0, 500) || a == b) {
            return BAD;
        }
        if (moves.size() == 40) {
            return FULL;
        }
        if (c < today) {
            return STATE;
        }
        moves.add(new Move(square, a, b, c));
        return moves.size();
    }

    public int market(int square, int day, int known) {
        if (none(square, squares) || out(day, 0, 500) || out(known, 0, 500)) {
            return BAD;
        }
        for (int i = moves.size() - 1; i >= 0; i--) {
            Move m = moves.get(i);
            if (m.square == square && m.c <= known && (m.a == day || m.b == day)) {
                return m.b == day ? 1 : 0;
            }
        }
        return bits(squares.get(square).week).contains(day % 7) ? 1 : 0;
    }

    public int sheet(int s, int n) {
        if (out(s, 0, 3) || n > 80) {
            return BAD;
        }
        if (n < 0) {
            return find(5);
        }
        sheets[s] = new byte[n];
        return n;
    }

    public int lay(int s, int i, int c) {
        if (out(s, 0, 3)) {
            return BAD;
        }
        if (sheets[s] == null) {
            return find(1);
        }
        if (out(i, 0, sheets[s].length - 1)) {
            return find(2);
        }
        int was = sheets[s][i] + 1000;
        sheets[s][i] = (byte) c;
        return was;
    }

    public int tear(int s) {
        if (out(s, 0, 3)) {
            return BAD;
        }
        if (sheets[s] == null) {
            return find(1);
        }
        sheets[s] = null;
        return 1;
    }

    public int copy(int s, int i, int to, int j, int n) {
        if (out(s, 0, 3) || out(to, 0, 3)) {
            return BAD;
        }
        if (n < 0) {
            return find(5);
        }
        if (sheets[s] == null || sheets[to] == null) {
            return find(1);
        }
        if (i < 0 || j < 0 || (long) i + n > sheets[s].length || (long) j + n > sheets[to].length) {
            return find(2);
        }
        byte[] taken = Arrays.copyOfRange(sheets[s], i, i + n);
        for (int k = 0; k < n; k++) {
            sheets[to][j + k] = taken[k];
        }
        return 1;
    }

    private Matcher pieces(int s) {
        StringBuilder text = new StringBuilder();
        for (byte b : sheets[s]) {
            text.append((char) (b & 255));
        }
        return PIECE.matcher(text);
    }

    public int words(int s) {
        if (out(s, 0, 3)) {
            return BAD;
        }
        if (sheets[s] == null) {
            return find(1);
        }
        int words = 0;
        for (Matcher m = pieces(s); m.find();) {
            int size = m.group().length();
            words += m.group().charAt(0) > '9' ? 1 : size / 3 + (size % 3 == 0 ? 0 : 1);
        }
        return words;
    }

    /** Asked by the test alone: it is no call, so that it finds nothing. */
    boolean hasWords(int s) {
        return sheets[s] != null && pieces(s).find();
    }

    public int bar(int s) {
        if (out(s, 0, 3)) {
            return BAD;
        }
        if (sheets[s] == null) {
            return find(1);
        }
        barred = pieces(s).results().map(r -> r.group().toLowerCase()).filter(p -> p.length() <= 12).limit(16).toList();
        return barred.size();
    }

    public int barred(int s) {
        if (out(s, 0, 3)) {
            return BAD;
        }
        if (sheets[s] == null) {
            return find(1);
        }
        for (Matcher m = pieces(s); m.find();) {
            if (barred.contains(m.group().toLowerCase())) {
                return m.start();
            }
        }
        return NONE;
    }

    public int rate(int kind, int r) {
        if (out(kind, 0, 5) || out(r, 0, 1000)) {
            return BAD;
        }
        int was = rates[kind];
        rates[kind] = r;
        return was;
    }

    public int notice(int kind, int s, int squares, int times, int marks) {
        if (out(kind, 0, 5) || out(s, 0, 3) || squares == 0 || noSquares(squares) || out(times, 1, 9)
                || out(marks, 0, 65535)) {
            return BAD;
        }
        if (notices.size() == 40) {
            return FULL;
        }
        if (sheets[s] == null) {
            return find(1);
        }
        if (barred(s) != NONE) {
            return BARRED;
        }
        if (words(s) == 0) {
            return find(5);
        }
        boolean law = kind == 1 || kind == 2;
        notices.add(new Notice(kind, words(s), bits(squares), law ? 3 : times, bits(kind >= 4 ? marks : 0), today));
        return notices.size() - 1;
    }

    private static int sum(Set<Integer> of) {
        return of.stream().mapToInt(b -> 1 << b).sum();
    }

    private boolean done(int notice) {
        Notice n = notices.get(notice);
        return n.at.stream().allMatch(s -> counted(notice, s) == n.times);
    }

    public int told(int notice, int what) {
        if (none(notice, notices) || out(what, 0, 6)) {
            return BAD;
        }
        Notice n = notices.get(notice);
        int[] all = {n.kind, n.words, sum(n.at), n.times, n.day, back.contains(notice) ? 1 : 0, done(notice) ? 1 : 0};
        return all[what];
    }

    public int mark(int notice, int kind) {
        if (none(notice, notices) || out(kind, 1, 5)) {
            return BAD;
        }
        Notice n = notices.get(notice);
        int wider = n.kind == 2 ? 1 : n.kind == 5 ? 4 : n.kind;
        if (kind != n.kind && kind != wider) {
            return find(3);
        }
        if (kind == 1) {
            return (int) n.at.stream().filter(s -> counted(notice, s) < n.times).count();
        }
        if (kind == 2) {
            return (int) cries.stream().filter(c -> c.notice == notice && c.counts).count();
        }
        if (kind == 3) {
            return fee(notice);
        }
        if (kind == 4) {
            return sum(n.marks);
        }
        int many = 0;
        for (int i = 0; i < notices.size(); i++) {
            many += joins(i, notice, 1) ? 1 : 0;
        }
        return many;
    }

    public int fee(int notice) {
        if (none(notice, notices)) {
            return BAD;
        }
        Notice n = notices.get(notice);
        return n.times * n.at.size() * rates[n.kind] * n.words;
    }

    public int mean() {
        List<Integer> fees = new ArrayList<>();
        for (int i = 0; i < notices.size(); i++) {
            if (!back.contains(i)) {
                fees.add(fee(i));
            }
        }
        return fees.isEmpty() ? find(4) : fees.stream().mapToInt(f -> f).sum() / fees.size();
    }

    public int back(int notice) {
        if (none(notice, notices)) {
            return BAD;
        }
        return !done(notice) && back.add(notice) ? 1 : STATE;
    }

    public int crier(int square) {
        if (none(square, squares)) {
            return BAD;
        }
        if (homes.size() == 6) {
            return FULL;
        }
        homes.add(square);
        return homes.size() - 1;
    }

    private int placeOf(int crier) {
        int at = homes.get(crier);
        for (Cry c : cries) {
            at = c.crier == crier ? c.square : at;
        }
        return at;
    }

    private int freeOf(int crier) {
        int free = 0;
        for (Cry c : cries) {
            if (c.crier == crier && c.day == today) {
                int words = notices.get(c.notice).words;
                free = c.minute + words / 10 + (words % 10 == 0 ? 0 : 1);
            }
        }
        return free;
    }

    public int ready(int crier, int square) {
        if (none(crier, homes) || none(square, squares)) {
            return BAD;
        }
        return freeOf(crier) + walk(placeOf(crier), square);
    }

    private boolean counts(int notice, int square) {
        Notice n = notices.get(notice);
        boolean law = n.kind == 1 || n.kind == 2;
        boolean already = cries.stream()
            .anyMatch(c -> c.notice == notice && c.square == square && c.day == today && c.counts);
        return n.at.contains(square) && !back.contains(notice) && counted(notice, square) < n.times && !already
            && (!law || market(square, today, today) == 1);
    }

    public int cry(int notice, int crier, int square, int minute) {
        if (none(notice, notices) || none(crier, homes) || none(square, squares) || out(minute, 0, 1439)) {
            return BAD;
        }
        if (cries.size() == 400) {
            return FULL;
        }
        if (minute < ready(crier, square)) {
            return STATE;
        }
        for (Cry c : cries) {
            boolean close = c.minute - minute < 5 && minute - c.minute < 5 && walk(c.square, square) <= near;
            if (c.day == today && c.crier != crier && close) {
                return BARRED;
            }
        }
        boolean counts = counts(notice, square);
        cries.add(new Cry(notice, crier, square, today, minute, counts));
        return counts ? 1 : 0;
    }

    public int counted(int notice, int square) {
        if (none(notice, notices) || none(square, squares)) {
            return BAD;
        }
        return (int) cries.stream().filter(c -> c.notice == notice && c.square == square && c.counts).count();
    }

    public int cryTold(int i, int what) {
        if (out(what, 0, 5)) {
            return BAD;
        }
        if (none(i, cries)) {
            return NONE;
        }
        Cry c = cries.get(i);
        return new int[] {c.notice, c.crier, c.square, c.day, c.minute, c.counts ? 1 : 0}[what];
    }

    private List<Integer> dues(int square) {
        List<Integer> dues = new ArrayList<>();
        for (int n = 0; n < notices.size(); n++) {
            if (counts(n, square)) {
                dues.add(n);
            }
        }
        return dues;
    }

    public int due(int square) {
        return none(square, squares) ? BAD : dues(square).size();
    }

    public int dueAt(int square, int i) {
        if (none(square, squares)) {
            return BAD;
        }
        List<Integer> dues = dues(square);
        return none(i, dues) ? NONE : dues.get(i);
    }

    public int present(int person, int square, int from, int to) {
        if (out(person, 0, 9) || none(square, squares) || out(from, 0, 1439) || out(to, from, 1439)) {
            return BAD;
        }
        if (stays.size() == 60) {
            return FULL;
        }
        stays.add(new Stay(person, square, today, from, to));
        return stays.size();
    }

    public int heard(int person, int notice) {
        if (out(person, 0, 9) || none(notice, notices)) {
            return BAD;
        }
        return (int) cries.stream().filter(c -> c.notice == notice && c.counts && stays.stream().anyMatch(
            s -> s.person == person && s.day == c.day && !out(c.minute, s.from, s.to) && walk(s.square, c.square) <= near))
            .count();
    }

    public int hearers(int notice, int n) {
        if (none(notice, notices) || out(n, 1, 9)) {
            return BAD;
        }
        Set<Integer> persons = new HashSet<>();
        for (int p = 0; p <= 9; p++) {
            if (heard(p, notice) >= n) {
                persons.add(p);
            }
        }
        return sum(persons);
    }

    public int round(int crier, int squares) {
        if (none(crier, homes) || noSquares(squares)) {
            return BAD;
        }
        wayWalk = Integer.MAX_VALUE;
        extend(placeOf(crier), bits(squares), new ArrayList<>(), 0);
        return wayWalk;
    }

    // Orders come by the lesser SQUARE first, so that a later one has to be better.
    private void extend(int from, Set<Integer> left, List<Integer> gone, int walked) {
        if (walked >= wayWalk) {
            return;
        }
        if (left.isEmpty()) {
            way = new ArrayList<>(gone);
            wayWalk = walked;
        }
        for (int s = 0; s < squares.size(); s++) {
            if (left.contains(s)) {
                left.remove(s);
                gone.add(s);
                extend(s, left, gone, walked + walk(from, s));
                gone.remove(gone.size() - 1);
                left.add(s);
            }
        }
    }

    public int roundAt(int i) {
        return none(i, way) ? NONE : way.get(i);
    }

    private boolean joins(int lost, int other, int k) {
        Set<Integer> both = new HashSet<>(notices.get(lost).marks);
        both.retainAll(notices.get(other).marks);
        return notices.get(lost).kind == 4 && notices.get(other).kind == 5 && !back.contains(lost)
            && !back.contains(other) && both.size() >= k;
    }

    public int joined(int notice, int k, int i) {
        if (none(notice, notices) || out(k, 1, 16)) {
            return BAD;
        }
        if (notices.get(notice).kind != 4) {
            return find(3);
        }
        List<Integer> all = new ArrayList<>();
        for (int n = 0; n < notices.size(); n++) {
            if (joins(notice, n, k)) {
                all.add(n);
            }
        }
        return none(i, all) ? NONE : all.get(i);
    }

    public int count(int what) {
        int[] all = {squares.size(), homes.size(), notices.size(), cries.size(), today, moves.size(), barred.size()};
        return out(what, 0, 6) ? BAD : all[what];
    }

    public int finding() {
        return found.isEmpty() ? 0 : found.get(found.size() - 1);
    }

    public int findings(int f) {
        return out(f, 1, 5) ? BAD : (int) found.stream().filter(g -> g == f).count();
    }

    public long digest() {
        List<Integer> all = new ArrayList<>();
        for (int what = 0; what <= 6; what++) {
            all.add(count(what));
        }
        for (int n = 0; n < notices.size(); n++) {
            for (int what = 0; what <= 6; what++) {
                all.add(told(n, what));
            }
        }
        for (int i = 0; i < cries.size(); i++) {
            for (int what = 0; what <= 5; what++) {
                all.add(cryTold(i, what));
            }
        }
        for (int c = 0; c < homes.size(); c++) {
            all.add(placeOf(c));
            all.add(freeOf(c));
        }
        for (byte[] sheet : sheets) {
            all.add(sheet == null ? -1 : sheet.length);
            for (int i = 0; sheet != null && i < sheet.length; i++) {
                all.add((int) sheet[i]);
            }
        }
        long h = 17;
        for (int v : all) {
            h = 31 * h + v;
        }
        return h;
    }
}
