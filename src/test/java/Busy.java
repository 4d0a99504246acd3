import java.util.function.Supplier;
import java.util.function.ToLongBiFunction;
import java.util.function.ToLongFunction;

/**
 * An office in the middle of its second day, and what a call does to it: an office with a refused call has to
 * answer all that is asked behind it as one without that call.
 */
final class Busy {
    static final int BAD = CriersOffice.BAD, FULL = CriersOffice.FULL, FINDING = CriersOffice.FINDING,
        STATE = CriersOffice.STATE, BARRED = CriersOffice.BARRED, NONE = CriersOffice.NONE;
    static final int NOTHING = 1, BEYOND = 2, UNLIKE = 3, NOUGHT = 4, SIZE = 5;

    private static final int MIN = Integer.MIN_VALUE, MAX = Integer.MAX_VALUE;

    private static int tried = 0;

    private Busy() { }

    /** How many refusals were tried. */
    static int tried() {
        return tried;
    }

    /**
     * SQUARES 0 to 2, CRIERS 0 and 1, NOTICES 0 to 3 (0 is DONE), CRIES 0 and 1 (this one today), a MOVE, 2 BARRED
     * PIECES, HEARING 7, day 1; of the SHEETS, 0 is BARRED, 1 has WORDS, 2 has none, 3 is missing.
     */
    static CriersOffice office() {
        CriersOffice x = new CriersOffice();
        x.mean();
        x.square(0, 0, 127);
        x.square(3, 0, 3);
        x.square(20, 20, 0);
        x.hearing(7);
        x.crier(0);
        x.crier(1);
        Check.write(x, 0, "gin ale");
        x.bar(0);
        Check.write(x, 1, "lost ring");
        x.sheet(2, 5);
        x.rate(3, 4);
        x.notice(0, 1, 1, 1, 0);
        x.notice(1, 1, 3, 1, 0);
        x.notice(4, 1, 7, 2, 6);
        x.notice(5, 1, 7, 2, 3);
        x.move(1, 3, 4, 2);
        x.present(0, 1, 0, 900);
        x.cry(0, 0, 0, 10);
        x.later(1);
        x.present(1, 0, 10, 40);
        x.cry(2, 0, 0, 30);
        x.round(0, 7);
        return x;
    }

    /** The same on the next day, without a CRY yet. */
    static CriersOffice nextDay() {
        CriersOffice x = office();
        x.later(1);
        return x;
    }

    /** The same with four SHEETS that have WORDS and nothing BARRED in them. */
    static CriersOffice withAllSheets() {
        CriersOffice x = office();
        for (int s = 0; s <= 3; s++) {
            Check.write(x, s, "cap");
        }
        return x;
    }

    /** The same with no room for a SQUARE, CRIER, NOTICE, MOVE or stay more. */
    static CriersOffice full() {
        CriersOffice x = office();
        for (int i = 3; i < 10; i++) {
            Check.due("square", x.square(i, 1, 1), i);
        }
        for (int i = 2; i < 6; i++) {
            Check.due("crier", x.crier(2), i);
        }
        for (int i = 4; i < 40; i++) {
            Check.due("notice", x.notice(0, 1, 1, 1, 0), i);
        }
        for (int i = 2; i <= 40; i++) {
            Check.due("move", x.move(0, 50, 51, 50), i);
        }
        for (int i = 3; i <= 60; i++) {
            Check.due("present", x.present(9, 2, 0, 0), i);
        }
        return x;
    }

    /** All that the office answers, by calls that change it too, but for findings. */
    private static long[] answers(CriersOffice x) {
        long[] all = new long[250];
        int at = 0;
        all[at++] = x.digest();
        for (int i = 0; i < 10; i++) {
            all[at++] = x.roundAt(i);
        }
        for (int p = 0; p < 10; p++) {
            for (int n = 0; n < 4; n++) {
                all[at++] = x.heard(p, n);
            }
        }
        for (int n = 0; n < 4; n++) {
            for (int s = 0; s < 3; s++) {
                all[at++] = x.counted(n, s);
                all[at++] = x.dueAt(s, n);
            }
            all[at++] = x.fee(n);
            for (int kind = 1; kind <= 5; kind++) {
                all[at++] = x.mark(n, kind);
            }
            all[at++] = x.joined(n, 1, 0);
        }
        for (int day = 0; day < 20; day++) {
            for (int known = 0; known < 4; known++) {
                all[at++] = x.market(1, day, known);
            }
        }
        for (int kind = 0; kind <= 5; kind++) {
            all[at++] = x.rate(kind, 0);
        }
        for (int s = 0; s <= 3; s++) {
            all[at++] = x.barred(s);
        }
        all[at++] = x.mean();
        all[at++] = x.present(0, 0, 0, 0);
        x.later(1);
        all[at++] = x.hearing(0);
        all[at++] = x.digest();
        return all;
    }

    static void refused(String call, int due, ToLongFunction<CriersOffice> made) {
        refused(Busy::office, call, due, made);
    }

    /** It is answered as due, is no FINDING, and changes nothing. */
    static void refused(Supplier<CriersOffice> office, String call, int due, ToLongFunction<CriersOffice> made) {
        tried++;
        CriersOffice with = office.get();
        CriersOffice without = office.get();
        Check.due(call, made.applyAsLong(with), due);
        Check.due(call + ", then finding()", with.finding(), without.finding());
        for (int f = 1; f <= 5; f++) {
            Check.due(call + ", then findings(" + f + ")", with.findings(f), without.findings(f));
        }
        answersAlike(call, with, without);
    }

    static void found(String call, int finding, ToLongFunction<CriersOffice> made) {
        found(Busy::office, call, finding, made);
    }

    /** It is answered FINDING, is the latest one, is counted once, and changes nothing else. */
    static void found(Supplier<CriersOffice> office, String call, int finding, ToLongFunction<CriersOffice> made) {
        tried++;
        CriersOffice with = office.get();
        CriersOffice without = office.get();
        Check.due(call, made.applyAsLong(with), FINDING);
        Check.due(call + ", then finding()", with.finding(), finding);
        for (int f = 1; f <= 5; f++) {
            int more = f == finding ? 1 : 0;
            Check.due(call + ", then findings(" + f + ")", with.findings(f), without.findings(f) + more);
        }
        answersAlike(call, with, without);
    }

    private static void answersAlike(String call, CriersOffice with, CriersOffice without) {
        long[] got = answers(with);
        long[] want = answers(without);
        for (int i = 0; i < got.length; i++) {
            if (got[i] != want[i]) {
                Check.due(call + " refused, then answer " + i, got[i], want[i]);
            }
        }
    }

    static void taken(String call, ToLongFunction<CriersOffice> made) {
        taken(Busy::office, call, made);
    }

    static void taken(Supplier<CriersOffice> office, String call, ToLongFunction<CriersOffice> made) {
        long got = made.applyAsLong(office.get());
        Check.holds(call + " is taken, and not answered " + got, got >= 0);
    }

    static void range(String call, int least, int most, ToLongBiFunction<CriersOffice, Integer> made) {
        range(Busy::office, call, least, most, made);
    }

    /** The least and the most are taken; what lies beyond them is BAD. */
    static void range(Supplier<CriersOffice> office, String call, int least, int most,
            ToLongBiFunction<CriersOffice, Integer> made) {
        for (int v : new int[] {least, most}) {
            taken(office, call + " with " + v, x -> made.applyAsLong(x, v));
        }
        for (int v : new int[] {least - 1, most + 1, MIN, MAX}) {
            refused(office, call + " with " + v, BAD, x -> made.applyAsLong(x, v));
        }
    }

    /** The first and the last of so many are told; there is NONE ahead of them and behind them. */
    static void indices(String call, int many, ToLongBiFunction<CriersOffice, Integer> made) {
        for (int i : new int[] {0, many - 1}) {
            taken(call + " with " + i, x -> made.applyAsLong(x, i));
        }
        for (int i : new int[] {-1, many, MIN, MAX}) {
            refused(call + " with " + i, NONE, x -> made.applyAsLong(x, i));
        }
    }
}
