import java.util.ArrayList;
import java.util.Arrays;

/** A criers' office. The document DOC.md says what each call answers, by the promises' numbers. */
public final class CriersOffice {
    public static final int BAD = -1, FULL = -2, FINDING = -3, STATE = -4, BARRED = -5, NONE = -9;

    private static final int NOTHING = 1, BEYOND = 2, UNLIKE = 3, NOUGHT = 4, SIZE = 5;
    private static final int LAW = 1, BANS = 2, SALE = 3, LOST = 4, FOUND = 5, KINDS = 6;

    private static final int MOST_SQUARES = 10, MOST_MOVES = 40, MOST_NOTICES = 40;
    private static final int MOST_CRIERS = 6, MOST_CRIES = 400, MOST_STAYS = 60, PERSONS = 10;
    private static final int SHEETS = 4, MOST_SIGNS = 80;
    private static final int MOST_BARRED = 16, MOST_BARRED_SIGNS = 12;

    private static final int MOST_PLACE = 60, WHOLE_WEEK = 127, MOST_HEARING = 60;
    private static final int LAST_TODAY = 400, LAST_DAY = 500, LAST_MINUTE = 1439;
    private static final int MOST_RATE = 1000, MOST_TIMES = 9, TIMES_OF_LAW = 3;
    private static final int ALL_MARKS = 65535, MARKS = 16;
    private static final int MINUTES_APART = 5, WORDS_A_MINUTE = 10;

    private final ArrayList<Square> squares;
    private final ArrayList<Move> moves;
    private final ArrayList<Notice> notices;
    private final ArrayList<Crier> criers;
    private final ArrayList<Cry> cries;
    private final ArrayList<Stay> stays;
    private final Sheet[] sheets;
    private final BarredPieces barredPieces;
    private final Round latestRound;
    private final int[] rates;
    private final int[] findingCounts;
    private int latestFinding;
    private int today;
    private int reach;

    public CriersOffice() {
        squares = new ArrayList<>();
        moves = new ArrayList<>();
        notices = new ArrayList<>();
        criers = new ArrayList<>();
        cries = new ArrayList<>();
        stays = new ArrayList<>();
        sheets = new Sheet[SHEETS];
        for (int s = 0; s < SHEETS; s++) {
            sheets[s] = new Sheet();
        }
        barredPieces = new BarredPieces();
        latestRound = new Round();
        rates = new int[KINDS];
        Arrays.fill(rates, 1);
        findingCounts = new int[SIZE + 1];
        latestFinding = 0;
        today = 0;
        reach = 5;
    }

    // ---- 1 squares, days, sheets

    public int square(int x, int y, int week) {
        if (!isWithin(x, 0, MOST_PLACE) || !isWithin(y, 0, MOST_PLACE) || !isWithin(week, 0, WHOLE_WEEK)) {
            return BAD;
        }
        if (squares.size() >= MOST_SQUARES) {
            return FULL;
        }
        squares.add(new Square(x, y, week));
        return squares.size() - 1;
    }

    public int walk(int a, int b) {
        if (!isSquare(a) || !isSquare(b)) {
            return BAD;
        }
        return walkBetween(a, b);
    }

    public int hearing(int h) {
        if (!isWithin(h, 0, MOST_HEARING)) {
            return BAD;
        }
        if (wasCryToday()) {
            return STATE;
        }
        int before = reach;
        reach = h;
        return before;
    }

    public int later(int n) {
        if (!isWithin(n, 1, LAST_TODAY) || today + n > LAST_TODAY) {
            return BAD;
        }
        today += n;
        for (int c = 0; c < criers.size(); c++) {
            criers.get(c).free = 0;
        }
        return today;
    }

    public int move(int square, int a, int b, int c) {
        if (!isSquare(square) || !isDay(a) || !isDay(b) || !isDay(c) || a == b) {
            return BAD;
        }
        if (moves.size() >= MOST_MOVES) {
            return FULL;
        }
        if (c < today) {
            return STATE;
        }
        moves.add(new Move(square, a, b, c));
        return moves.size();
    }

    public int market(int square, int day, int known) {
        if (!isSquare(square) || !isDay(day) || !isDay(known)) {
            return BAD;
        }
        return asAnswer(hasMarket(square, day, known));
    }

    public int sheet(int s, int n) {
        if (!isSheet(s) || n > MOST_SIGNS) {
            return BAD;
        }
        if (n < 0) {
            return find(SIZE);
        }
        sheets[s].begin(n);
        return n;
    }

    public int lay(int s, int i, int c) {
        if (!isSheet(s)) {
            return BAD;
        }
        Sheet sheet = sheets[s];
        if (sheet.isMissing()) {
            return find(NOTHING);
        }
        if (i < 0 || i >= sheet.size) {
            return find(BEYOND);
        }
        int before = sheet.signs[i];
        sheet.signs[i] = (byte) c;
        return before + 1000;
    }

    public int tear(int s) {
        if (!isSheet(s)) {
            return BAD;
        }
        if (sheets[s].isMissing()) {
            return find(NOTHING);
        }
        sheets[s].lose();
        return 1;
    }

    public int copy(int s, int i, int to, int j, int n) {
        if (!isSheet(s) || !isSheet(to)) {
            return BAD;
        }
        if (n < 0) {
            return find(SIZE);
        }
        if (sheets[s].isMissing() || sheets[to].isMissing()) {
            return find(NOTHING);
        }
        if (!sheets[s].hasRun(i, n) || !sheets[to].hasRun(j, n)) {
            return find(BEYOND);
        }
        System.arraycopy(sheets[s].signs, i, sheets[to].signs, j, n);
        return 1;
    }

    public int words(int s) {
        if (!isSheet(s)) {
            return BAD;
        }
        if (sheets[s].isMissing()) {
            return find(NOTHING);
        }
        return sheets[s].wordCount();
    }

    public int bar(int s) {
        if (!isSheet(s)) {
            return BAD;
        }
        if (sheets[s].isMissing()) {
            return find(NOTHING);
        }
        barredPieces.takeFrom(sheets[s]);
        return barredPieces.count;
    }

    public int barred(int s) {
        if (!isSheet(s)) {
            return BAD;
        }
        if (sheets[s].isMissing()) {
            return find(NOTHING);
        }
        return barredPieces.firstIn(sheets[s]);
    }

    // ---- 2 notices, cries

    public int rate(int kind, int r) {
        if (!isKind(kind) || !isWithin(r, 0, MOST_RATE)) {
            return BAD;
        }
        int before = rates[kind];
        rates[kind] = r;
        return before;
    }

    public int notice(int kind, int s, int squares, int times, int marks) {
        if (!isKind(kind) || !isSheet(s) || !areSquares(squares) || squares == 0
                || !isWithin(times, 1, MOST_TIMES) || !isWithin(marks, 0, ALL_MARKS)) {
            return BAD;
        }
        if (notices.size() >= MOST_NOTICES) {
            return FULL;
        }
        Sheet sheet = sheets[s];
        if (sheet.isMissing()) {
            return find(NOTHING);
        }
        if (barredPieces.firstIn(sheet) != NONE) {
            return BARRED;
        }
        int words = sheet.wordCount();
        if (words == 0) {
            return find(SIZE);
        }
        int timesDue = isOfKind(kind, LAW) ? TIMES_OF_LAW : times;
        int marksKept = isOfKind(kind, LOST) ? marks : 0;
        notices.add(new Notice(kind, words, squares, timesDue, marksKept, today));
        return notices.size() - 1;
    }

    public int told(int notice, int what) {
        if (!isNotice(notice)) {
            return BAD;
        }
        Notice n = notices.get(notice);
        switch (what) {
            case 0: return n.kind;
            case 1: return n.words;
            case 2: return n.squares;
            case 3: return n.times;
            case 4: return n.day;
            case 5: return asAnswer(n.takenBack);
            case 6: return asAnswer(n.isDone());
            default: return BAD;
        }
    }

    public int mark(int notice, int kind) {
        if (!isNotice(notice) || !isKind(kind) || kind == 0) {
            return BAD;
        }
        Notice n = notices.get(notice);
        if (!isOfKind(n.kind, kind)) {
            return find(UNLIKE);
        }
        switch (kind) {
            case LAW: return n.lackingSquares();
            case BANS: return n.countedInAll();
            case SALE: return feeOf(n);
            case LOST: return n.marks;
            default: return lostJoinedWith(n);
        }
    }

    public int fee(int notice) {
        if (!isNotice(notice)) {
            return BAD;
        }
        return feeOf(notices.get(notice));
    }

    public int mean() {
        int sum = 0;
        int sharers = 0;
        for (int i = 0; i < notices.size(); i++) {
            Notice n = notices.get(i);
            if (!n.takenBack) {
                sum += feeOf(n);
                sharers++;
            }
        }
        if (sharers == 0) {
            return find(NOUGHT);
        }
        return sum / sharers;
    }

    public int back(int notice) {
        if (!isNotice(notice)) {
            return BAD;
        }
        Notice n = notices.get(notice);
        if (n.takenBack || n.isDone()) {
            return STATE;
        }
        n.takenBack = true;
        return 1;
    }

    public int crier(int square) {
        if (!isSquare(square)) {
            return BAD;
        }
        if (criers.size() >= MOST_CRIERS) {
            return FULL;
        }
        criers.add(new Crier(square));
        return criers.size() - 1;
    }

    public int ready(int crier, int square) {
        if (!isCrier(crier) || !isSquare(square)) {
            return BAD;
        }
        return readyMinute(criers.get(crier), square);
    }

    public int cry(int notice, int crier, int square, int minute) {
        if (!isNotice(notice) || !isCrier(crier) || !isSquare(square) || !isMinute(minute)) {
            return BAD;
        }
        if (cries.size() >= MOST_CRIES) {
            return FULL;
        }
        if (readyMinute(criers.get(crier), square) > minute) {
            return STATE;
        }
        if (isDrowned(crier, square, minute)) {
            return BARRED;
        }
        Notice n = notices.get(notice);
        boolean counts = wouldCount(n, square);
        if (counts) {
            n.countCry(square, today);
        }
        cries.add(new Cry(notice, crier, square, today, minute, counts));
        criers.get(crier).stand(square, minute + n.minutesToCry());
        return asAnswer(counts);
    }

    public int counted(int notice, int square) {
        if (!isNotice(notice) || !isSquare(square)) {
            return BAD;
        }
        return notices.get(notice).counts[square];
    }

    public int cryTold(int i, int what) {
        if (!isWithin(what, 0, 5)) {
            return BAD;
        }
        if (i < 0 || i >= cries.size()) {
            return NONE;
        }
        Cry c = cries.get(i);
        switch (what) {
            case 0: return c.notice;
            case 1: return c.crier;
            case 2: return c.square;
            case 3: return c.day;
            case 4: return c.minute;
            default: return asAnswer(c.counted);
        }
    }

    public int due(int square) {
        if (!isSquare(square)) {
            return BAD;
        }
        int many = 0;
        for (int n = 0; n < notices.size(); n++) {
            if (wouldCount(notices.get(n), square)) {
                many++;
            }
        }
        return many;
    }

    public int dueAt(int square, int i) {
        if (!isSquare(square)) {
            return BAD;
        }
        int ahead = 0;
        for (int n = 0; n < notices.size(); n++) {
            if (wouldCount(notices.get(n), square)) {
                if (ahead == i) {
                    return n;
                }
                ahead++;
            }
        }
        return NONE;
    }

    // ---- 3 who heard, rounds, what is joined

    public int present(int person, int square, int from, int to) {
        if (!isPerson(person) || !isSquare(square) || !isMinute(from) || !isMinute(to) || from > to) {
            return BAD;
        }
        if (stays.size() >= MOST_STAYS) {
            return FULL;
        }
        stays.add(new Stay(person, square, today, from, to));
        return stays.size();
    }

    public int heard(int person, int notice) {
        if (!isPerson(person) || !isNotice(notice)) {
            return BAD;
        }
        return heardTimes(person, notice);
    }

    public int hearers(int notice, int n) {
        if (!isNotice(notice) || !isWithin(n, 1, 9)) {
            return BAD;
        }
        int bits = 0;
        for (int person = 0; person < PERSONS; person++) {
            if (heardTimes(person, notice) >= n) {
                bits |= 1 << person;
            }
        }
        return bits;
    }

    public int round(int crier, int squares) {
        if (!isCrier(crier) || !areSquares(squares)) {
            return BAD;
        }
        return latestRound.plan(this.squares, criers.get(crier).square, squares);
    }

    public int roundAt(int i) {
        return latestRound.squareAt(i);
    }

    public int joined(int notice, int k, int i) {
        if (!isNotice(notice) || !isWithin(k, 1, MARKS)) {
            return BAD;
        }
        Notice lost = notices.get(notice);
        if (lost.kind != LOST) {
            return find(UNLIKE);
        }
        int ahead = 0;
        for (int f = 0; f < notices.size(); f++) {
            if (areJoined(lost, notices.get(f), k)) {
                if (ahead == i) {
                    return f;
                }
                ahead++;
            }
        }
        return NONE;
    }

    // ---- 4 what is told

    public int count(int what) {
        switch (what) {
            case 0: return squares.size();
            case 1: return criers.size();
            case 2: return notices.size();
            case 3: return cries.size();
            case 4: return today;
            case 5: return moves.size();
            case 6: return barredPieces.count;
            default: return BAD;
        }
    }

    public int finding() {
        return latestFinding;
    }

    public int findings(int f) {
        if (!isWithin(f, NOTHING, SIZE)) {
            return BAD;
        }
        return findingCounts[f];
    }

    public long digest() {
        long h = 17;
        for (int what = 0; what <= 6; what++) {
            h = 31 * h + count(what);
        }
        for (int n = 0; n < notices.size(); n++) {
            for (int what = 0; what <= 6; what++) {
                h = 31 * h + told(n, what);
            }
        }
        for (int i = 0; i < cries.size(); i++) {
            for (int what = 0; what <= 5; what++) {
                h = 31 * h + cryTold(i, what);
            }
        }
        for (int c = 0; c < criers.size(); c++) {
            h = 31 * h + criers.get(c).square;
            h = 31 * h + criers.get(c).free;
        }
        for (int s = 0; s < SHEETS; s++) {
            h = sheets[s].digestOnto(h);
        }
        return h;
    }

    // ---- what numbers are

    private static boolean isWithin(int v, int least, int most) {
        return v >= least && v <= most;
    }

    private static boolean isDay(int d) {
        return isWithin(d, 0, LAST_DAY);
    }

    private static boolean isMinute(int m) {
        return isWithin(m, 0, LAST_MINUTE);
    }

    private static boolean isSheet(int s) {
        return isWithin(s, 0, SHEETS - 1);
    }

    private static boolean isKind(int kind) {
        return isWithin(kind, 0, KINDS - 1);
    }

    private static boolean isPerson(int person) {
        return isWithin(person, 0, PERSONS - 1);
    }

    private boolean isSquare(int square) {
        return square >= 0 && square < squares.size();
    }

    private boolean isNotice(int notice) {
        return notice >= 0 && notice < notices.size();
    }

    private boolean isCrier(int crier) {
        return crier >= 0 && crier < criers.size();
    }

    private boolean areSquares(int bits) {
        return bits >= 0 && bits < 1 << squares.size();
    }

    private static boolean isOfKind(int kind, int of) {
        return kind == of || kind == BANS && of == LAW || kind == FOUND && of == LOST;
    }

    private static int asAnswer(boolean yes) {
        return yes ? 1 : 0;
    }

    private int find(int finding) {
        latestFinding = finding;
        findingCounts[finding]++;
        return FINDING;
    }

    // ---- what several calls ask; each asks with numbers that were looked at

    private int walkBetween(int a, int b) {
        return squares.get(a).walkTo(squares.get(b));
    }

    private boolean areInHearing(int a, int b) {
        return walkBetween(a, b) <= reach;
    }

    // Days only go on, so a CRY of today can only be the latest one.
    private boolean wasCryToday() {
        return !cries.isEmpty() && cries.get(cries.size() - 1).day == today;
    }

    private boolean hasMarket(int square, int day, int known) {
        boolean has = squares.get(square).hasInWeek(day);
        for (int i = 0; i < moves.size(); i++) {
            Move m = moves.get(i);
            if (m.square == square && m.known <= known) {
                if (m.from == day) {
                    has = false;
                }
                if (m.to == day) {
                    has = true;
                }
            }
        }
        return has;
    }

    private int feeOf(Notice n) {
        return n.words * rates[n.kind] * Integer.bitCount(n.squares) * n.times;
    }

    private int readyMinute(Crier c, int square) {
        return c.free + walkBetween(c.square, square);
    }

    private boolean isDrowned(int crier, int square, int minute) {
        for (int i = 0; i < cries.size(); i++) {
            Cry c = cries.get(i);
            if (c.day == today && c.crier != crier && Math.abs(c.minute - minute) < MINUTES_APART
                    && areInHearing(c.square, square)) {
                return true;
            }
        }
        return false;
    }

    private boolean wouldCount(Notice n, int square) {
        return n.lacksCryAt(square) && !n.takenBack && n.latestDays[square] != today
                && (!isOfKind(n.kind, LAW) || hasMarket(square, today, today));
    }

    private int heardTimes(int person, int notice) {
        int times = 0;
        for (int i = 0; i < cries.size(); i++) {
            Cry c = cries.get(i);
            if (c.notice == notice && c.counted && wasInHearing(person, c)) {
                times++;
            }
        }
        return times;
    }

    private boolean wasInHearing(int person, Cry c) {
        for (int i = 0; i < stays.size(); i++) {
            Stay s = stays.get(i);
            if (s.person == person && s.day == c.day && isWithin(c.minute, s.from, s.to)
                    && areInHearing(s.square, c.square)) {
                return true;
            }
        }
        return false;
    }

    private static boolean areJoined(Notice lost, Notice found, int k) {
        return lost.kind == LOST && found.kind == FOUND && !lost.takenBack && !found.takenBack
                && Integer.bitCount(lost.marks & found.marks) >= k;
    }

    private int lostJoinedWith(Notice found) {
        int many = 0;
        for (int i = 0; i < notices.size(); i++) {
            if (areJoined(notices.get(i), found, 1)) {
                many++;
            }
        }
        return many;
    }

    private static final class Square {
        private final int x, y, week;

        Square(int x, int y, int week) {
            this.x = x;
            this.y = y;
            this.week = week;
        }

        int walkTo(Square other) {
            return Math.abs(x - other.x) + Math.abs(y - other.y);
        }

        boolean hasInWeek(int day) {
            return (week >> day % 7 & 1) == 1;
        }
    }

    private static final class Move {
        private final int square, from, to, known;

        Move(int square, int from, int to, int known) {
            this.square = square;
            this.from = from;
            this.to = to;
            this.known = known;
        }
    }

    /** Signs that begin at 0 and end at size; one row serves for every size. */
    private static final class Sheet {
        private static final int MISSING = -1;

        private final byte[] signs = new byte[MOST_SIGNS];
        private int size = MISSING;

        boolean isMissing() {
            return size == MISSING;
        }

        void lose() {
            size = MISSING;
        }

        void begin(int n) {
            Arrays.fill(signs, (byte) 0);
            size = n;
        }

        // Asked by the difference, as i + n may wrap around.
        boolean hasRun(int i, int n) {
            return i >= 0 && n <= size && i <= size - n;
        }

        boolean startsPiece(int i) {
            return isOfPiece(signs[i]) && (i == 0 || !isOfPiece(signs[i - 1]));
        }

        int pieceLength(int start) {
            int end = start;
            while (end < size && isOfPiece(signs[end])) {
                end++;
            }
            return end - start;
        }

        int wordCount() {
            int words = 0;
            for (int i = 0; i < size; i++) {
                if (startsPiece(i)) {
                    words += isFigure(signs[i]) ? (pieceLength(i) + 2) / 3 : 1;
                }
            }
            return words;
        }

        long digestOnto(long before) {
            long h = 31 * before + size;
            for (int i = 0; i < size; i++) {
                h = 31 * h + signs[i];
            }
            return h;
        }

        private static boolean isFigure(int c) {
            return c >= '0' && c <= '9';
        }

        private static boolean isOfPiece(int c) {
            return isFigure(c) || c >= 'a' && c <= 'z' || c >= 'A' && c <= 'Z';
        }

        static int asSmall(int c) {
            return c >= 'A' && c <= 'Z' ? c - 'A' + 'a' : c;
        }
    }

    /** Pieces are kept in small letters, each in a part of one row that is long enough for the longest. */
    private static final class BarredPieces {
        private final byte[] signs = new byte[MOST_BARRED * MOST_BARRED_SIGNS];
        private final int[] lengths = new int[MOST_BARRED];
        private int count = 0;

        void takeFrom(Sheet sheet) {
            count = 0;
            for (int i = 0; i < sheet.size && count < MOST_BARRED; i++) {
                if (sheet.startsPiece(i) && sheet.pieceLength(i) <= MOST_BARRED_SIGNS) {
                    keep(sheet, i, sheet.pieceLength(i));
                }
            }
        }

        int firstIn(Sheet sheet) {
            for (int i = 0; i < sheet.size; i++) {
                if (sheet.startsPiece(i) && isAlikeAny(sheet, i, sheet.pieceLength(i))) {
                    return i;
                }
            }
            return NONE;
        }

        private void keep(Sheet sheet, int start, int length) {
            for (int i = 0; i < length; i++) {
                signs[count * MOST_BARRED_SIGNS + i] = (byte) Sheet.asSmall(sheet.signs[start + i]);
            }
            lengths[count] = length;
            count++;
        }

        private boolean isAlikeAny(Sheet sheet, int start, int length) {
            for (int p = 0; p < count; p++) {
                if (lengths[p] == length && isAlike(p, sheet, start)) {
                    return true;
                }
            }
            return false;
        }

        private boolean isAlike(int p, Sheet sheet, int start) {
            for (int i = 0; i < lengths[p]; i++) {
                if (signs[p * MOST_BARRED_SIGNS + i] != Sheet.asSmall(sheet.signs[start + i])) {
                    return false;
                }
            }
            return true;
        }
    }

    private static final class Notice {
        private final int kind, words, squares, times, marks, day;
        private final int[] counts = new int[MOST_SQUARES];
        private final int[] latestDays = new int[MOST_SQUARES];
        private boolean takenBack = false;

        Notice(int kind, int words, int squares, int times, int marks, int day) {
            this.kind = kind;
            this.words = words;
            this.squares = squares;
            this.times = times;
            this.marks = marks;
            this.day = day;
            Arrays.fill(latestDays, NONE);
        }

        boolean lacksCryAt(int square) {
            return (squares >> square & 1) == 1 && counts[square] < times;
        }

        int lackingSquares() {
            int many = 0;
            for (int s = 0; s < MOST_SQUARES; s++) {
                if (lacksCryAt(s)) {
                    many++;
                }
            }
            return many;
        }

        boolean isDone() {
            return lackingSquares() == 0;
        }

        int countedInAll() {
            int sum = 0;
            for (int s = 0; s < MOST_SQUARES; s++) {
                sum += counts[s];
            }
            return sum;
        }

        int minutesToCry() {
            return (words + WORDS_A_MINUTE - 1) / WORDS_A_MINUTE;
        }

        void countCry(int square, int today) {
            counts[square]++;
            latestDays[square] = today;
        }
    }

    private static final class Crier {
        private int square;
        private int free;

        Crier(int square) {
            this.square = square;
            this.free = 0;
        }

        void stand(int at, int from) {
            square = at;
            free = from;
        }
    }

    private static final class Cry {
        private final int notice, crier, square, day, minute;
        private final boolean counted;

        Cry(int notice, int crier, int square, int day, int minute, boolean counted) {
            this.notice = notice;
            this.crier = crier;
            this.square = square;
            this.day = day;
            this.minute = minute;
            this.counted = counted;
        }
    }

    /** A PERSON at a SQUARE on a day, from a minute to another one. */
    private static final class Stay {
        private final int person, square, day, from, to;

        Stay(int person, int square, int day, int from, int to) {
            this.person = person;
            this.square = square;
            this.day = day;
            this.from = from;
            this.to = to;
        }
    }

    /** The latest ROUND. */
    private static final class Round {
        // Each of the walks of a ROUND goes at most the whole way along and up.
        private static final int FARTHER_THAN_ANY = MOST_SQUARES * 2 * MOST_PLACE + 1;

        private final int[] order = new int[MOST_SQUARES];
        private int length = 0;
        // By a set of SQUARES and one that is not in it: the least WALK from that one over the set.
        // SQUARES never move, so it holds for every ROUND until there are more of them.
        private int[] least = new int[0];
        private int measured = 0;

        int squareAt(int i) {
            return i >= 0 && i < length ? order[i] : NONE;
        }

        int plan(ArrayList<Square> squares, int start, int bits) {
            if (measured != squares.size()) {
                measureAll(squares);
            }
            int left = bits;
            int at = start;
            int walked = 0;
            length = Integer.bitCount(bits);
            for (int place = 0; place < length; place++) {
                int next = bestNext(squares, at, left);
                walked += squares.get(at).walkTo(squares.get(next));
                order[place] = next;
                left ^= 1 << next;
                at = next;
            }
            return walked;
        }

        // A set comes behind all of its parts, whose least WALKS it asks for.
        private void measureAll(ArrayList<Square> squares) {
            measured = squares.size();
            least = new int[(1 << measured) * MOST_SQUARES];
            for (int set = 1; set < 1 << measured; set++) {
                for (int from = 0; from < measured; from++) {
                    if ((set >> from & 1) == 0) {
                        int next = bestNext(squares, from, set);
                        least[set * MOST_SQUARES + from] = walkOver(squares, from, next, set);
                    }
                }
            }
        }

        // The lesser SQUARE is looked at first and left only for a better one, as alike orders want.
        private int bestNext(ArrayList<Square> squares, int from, int set) {
            int best = FARTHER_THAN_ANY;
            int chosen = 0;
            for (int next = 0; next < measured; next++) {
                if ((set >> next & 1) == 1) {
                    int way = walkOver(squares, from, next, set);
                    if (way < best) {
                        best = way;
                        chosen = next;
                    }
                }
            }
            return chosen;
        }

        private int walkOver(ArrayList<Square> squares, int from, int next, int set) {
            return squares.get(from).walkTo(squares.get(next)) + least[(set ^ 1 << next) * MOST_SQUARES + next];
        }
    }
}
