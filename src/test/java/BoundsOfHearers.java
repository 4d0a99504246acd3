/** The boundaries of promises 29 to 34, and of the Terms that they use. */
final class BoundsOfHearers {
    private static final int BAD = CriersOffice.BAD, FULL = CriersOffice.FULL, NONE = CriersOffice.NONE;
    private static final int UNLIKE = 3;
    private static final int MIN = Integer.MIN_VALUE, MAX = Integer.MAX_VALUE;

    private BoundsOfHearers() { }

    static void all() {
        present();
        sixtyStays();
        heard();
        heardWhenBegun();
        heardWhatCounted();
        hearers();
        rounds();
        roundsOverNone();
        roundsOverAll();
        roundsAlike();
        roundAt();
        latestRound();
        joinedByMarks();
        joinedOfLost();
        joinedUnlike();
        joinedNotTakenBack();
    }

    /** SQUARE 0, CRIER 0 and NOTICE 0 there. */
    private static CriersOffice office(int times) {
        CriersOffice x = Check.withSquares(0, 0);
        x.crier(0);
        Check.write(x, 0, "a");
        Check.due("notice", x.notice(0, 0, 1, times, 0), 0);
        return x;
    }

    private static void present() {
        Document.promise(29, "A PERSON was at a SQUARE from a minute to one today: how often there is told so. BAD: also from"
            + " above to;");
        Busy.range("present person", 0, 9, (x, v) -> x.present(v, 0, 0, 1439));
        Busy.range("present at square", 0, 2, (x, v) -> x.present(0, v, 0, 1439));
        Busy.range("present from", 0, 1439, (x, v) -> x.present(0, 0, v, 1439));
        Busy.range("present to", 0, 1439, (x, v) -> x.present(0, 0, 0, v));
        for (int minute : new int[] {0, 1, 700, 1438}) {
            Busy.taken("present for one minute", x -> x.present(0, 0, minute, minute));
            Busy.refused("present from above to", BAD, x -> x.present(0, 0, minute + 1, minute));
        }
        Busy.refused("present from and to beyond the day", BAD, x -> x.present(0, 0, 1440, 1440));
        Busy.refused("present from and to ahead of the day", BAD, x -> x.present(0, 0, -1, -1));
        Busy.refused("present from the last minute to the first", BAD, x -> x.present(0, 0, 1439, 0));
    }

    private static void sixtyStays() {
        Document.promise(29, "FULL.");
        Document.terms("(60 at most in all, of all days).");
        CriersOffice x = office(9);
        for (int i = 1; i <= 60; i++) {
            Check.due("present", x.present(i % 10, 0, 0, 0), i);
            if (i % 25 == 0) {
                x.later(1);
            }
        }
        Check.due("the 61st", x.present(1, 0, 5, 5), FULL);
        Check.due("cry", x.cry(0, 0, 0, 5), 1);
        Check.due("and it was not kept", x.heard(1, 0), 0);
        x.later(1);
        Check.due("on the next day, too", x.present(1, 0, 5, 5), FULL);
        Busy.refused(Busy::full, "present", FULL, y -> y.present(2, 0, 0, 1439));
        Busy.refused(Busy::full, "present, bad and full", BAD, y -> y.present(2, 0, 1, 0));
    }

    private static void heard() {
        Document.promise(30, "How many CRIES of a NOTICE a PERSON HEARD. BAD.");
        Document.terms("A PERSON 0 .. 9 was at a SQUARE");
        Busy.range("heard by person", 0, 9, (x, v) -> x.heard(v, 0));
        Busy.range("heard of notice", 0, 3, (x, v) -> x.heard(0, v));
        for (int p : new int[] {0, 9}) {
            CriersOffice x = office(9);
            x.present(p, 0, 0, 1439);
            x.cry(0, 0, 0, 0);
            for (int other = 0; other <= 9; other++) {
                Check.due("heard by " + other, x.heard(other, 0), other == p ? 1 : 0);
            }
        }
    }

    private static void heardWhenBegun() {
        Document.terms("from a minute to another one (with it) today, if that is so told");
        Document.terms("It HEARD a CRY that COUNTED, if it was at a SQUARE in HEARING when that was begun.");
        int[][] stays = {{50, 60}, {60, 70}, {60, 60}, {50, 59}, {61, 70}, {0, 1439}, {0, 59}, {61, 1439}};
        int[] due = {1, 1, 1, 0, 0, 1, 0, 0};
        CriersOffice x = Check.withSquares(0, 0);
        x.crier(0);
        Check.write(x, 0, "a ".repeat(40));
        x.notice(0, 0, 1, 1, 0);
        for (int p = 0; p < stays.length; p++) {
            x.present(p, 0, stays[p][0], stays[p][1]);
        }
        Check.due("a cry from 60 to 64", x.cry(0, 0, 0, 60), 1);
        for (int p = 0; p < stays.length; p++) {
            Check.due("heard from " + stays[p][0] + " to " + stays[p][1], x.heard(p, 0), due[p]);
        }
        Check.due("heard by one of whom nothing is told", x.heard(9, 0), 0);
        heardToday();
        heardOnce();
    }

    private static void heardToday() {
        for (int minute : new int[] {0, 1439}) {
            CriersOffice x = office(9);
            x.present(0, 0, 0, 1439);
            x.later(1);
            x.present(1, 0, 0, 1439);
            Check.due("cry", x.cry(0, 0, 0, minute), 1);
            x.later(1);
            x.present(2, 0, 0, 1439);
            Check.due("heard on the day before", x.heard(0, 0), 0);
            Check.due("heard on the day", x.heard(1, 0), 1);
            Check.due("heard on the day behind", x.heard(2, 0), 0);
        }
    }

    private static void heardOnce() {
        CriersOffice x = office(9);
        x.present(0, 0, 0, 100);
        x.present(0, 0, 100, 200);
        x.cry(0, 0, 0, 100);
        Check.due("told twice, heard once", x.heard(0, 0), 1);
    }

    private static void heardWhatCounted() {
        CriersOffice x = office(1);
        x.present(0, 0, 0, 1439);
        Check.due("no cry", x.heard(0, 0), 0);
        Check.due("cry", x.cry(0, 0, 0, 0), 1);
        Check.due("cry that does not count", x.cry(0, 0, 0, 10), 0);
        Check.due("heard", x.heard(0, 0), 1);
    }

    private static void hearers() {
        Document.promise(31, "PERSONS (bits) that HEARD a NOTICE at least n times (1 .. 9). BAD.");
        Busy.range("hearers of notice", 0, 3, (x, v) -> x.hearers(v, 1));
        Busy.range("hearers by times", 1, 9, (x, v) -> x.hearers(0, v));
        CriersOffice x = office(9);
        for (int day = 1; day <= 9; day++) {
            x.present(0, 0, 0, 1439);
            if (day > 1) {
                x.present(9, 0, 0, 1439);
            }
            Check.due("cry", x.cry(0, 0, 0, 0), 1);
            for (int n = 1; n <= 9; n++) {
                int due = (day >= n ? 1 : 0) + (day - 1 >= n ? 512 : 0);
                Check.due("hearers of " + n + " on day " + day, x.hearers(0, n), due);
            }
            x.later(1);
        }
    }

    private static void rounds() {
        Document.promise(32, "WALK of A ROUND of a CRIER over SQUARES (bits; none: 0). BAD.");
        Busy.range("round of crier", 0, 1, (x, v) -> x.round(v, 7));
        Busy.range("round over", 0, 7, (x, v) -> x.round(0, v));
        for (int bits : new int[] {8, 15, 1023, 1024, 1 << 30, -8}) {
            Busy.refused("round over " + bits, BAD, x -> x.round(0, bits));
        }
        Busy.refused("round of no crier over none", BAD, x -> x.round(2, 0));
    }

    private static void roundsOverNone() {
        CriersOffice x = Check.withSquares(60, 60);
        Check.due("round of no crier", x.round(0, 0), BAD);
        x.crier(0);
        Check.due("round over none", x.round(0, 0), 0);
        Check.due("roundAt", x.roundAt(0), NONE);
        Check.due("round over its own square", x.round(0, 1), 0);
        Check.due("roundAt", x.roundAt(0), 0);
        Check.due("roundAt", x.roundAt(1), NONE);
    }

    private static void roundsOverAll() {
        Document.terms("A ROUND of a CRIER over SQUARES (bits): an order of these with the least WALK, from where it is;");
        CriersOffice x = Check.withSquares(0, 0, 60, 60, 0, 60, 60, 0, 30, 30, 0, 30, 30, 0, 60, 30, 30, 60, 1, 1);
        x.crier(0);
        Check.due("round over ten", x.round(0, 1023), 8 * 30 + 2);
        Check.due("round over all but its own", x.round(0, 1022), 8 * 30 + 2);
        Check.due("round over an eleventh", x.round(0, 1024), BAD);
        Check.due("round over as far as can be", x.round(0, 2), 120);
        CriersOffice line = Check.withSquares(20, 0, 23, 0, 16, 0, 29, 0);
        line.crier(0);
        Check.due("the nearest first would be 22", line.round(0, 14), 17);
        Check.due("so it is not the nearest", line.roundAt(0), 2);
    }

    private static void roundsAlike() {
        Document.terms("of alike ones that which goes to the lesser SQUARE at the first place at which they differ.");
        CriersOffice x = Check.withSquares(5, 5, 5, 5, 5, 5, 5, 5, 5, 5, 5, 5, 5, 5, 5, 5, 5, 5, 5, 5);
        x.crier(7);
        Check.due("round where all lie together", x.round(0, 1023), 0);
        for (int i = 0; i < 10; i++) {
            Check.due("roundAt " + i, x.roundAt(i), i);
        }
        Check.due("roundAt 10", x.roundAt(10), NONE);
        CriersOffice line = Check.withSquares(20, 0, 30, 0, 10, 0);
        line.crier(0);
        Check.due("alike to both sides", line.round(0, 6), 30);
        Check.due("to the lesser", line.roundAt(0), 1);
        CriersOffice nearer = Check.withSquares(20, 0, 31, 0, 10, 0);
        nearer.crier(0);
        Check.due("not alike", nearer.round(0, 6), 31);
        Check.due("to the nearer", nearer.roundAt(0), 2);
    }

    private static void roundAt() {
        Document.promise(33, "NONE: none such.");
        Busy.indices("roundAt", 3, (x, i) -> x.roundAt(i));
        CriersOffice x = new CriersOffice();
        Check.due("roundAt ahead of any round", x.roundAt(0), NONE);
        for (int s = 0; s < 10; s++) {
            x.square(s, 0, 0);
        }
        x.crier(0);
        x.round(0, 1023);
        Check.due("the last of ten", x.roundAt(9), 9);
        Check.due("behind the last of ten", x.roundAt(10), NONE);
    }

    private static void latestRound() {
        Document.promise(33, "The i-th SQUARE of the latest round() that was not BAD;");
        CriersOffice x = Check.withSquares(0, 0, 1, 0, 2, 0);
        x.crier(2);
        Check.due("round", x.round(0, 7), 2);
        Check.due("bad round", x.round(0, 8), BAD);
        Check.due("bad round", x.round(1, 1), BAD);
        Check.due("the latest that was not bad", x.roundAt(0), 2);
        Check.due("the latest that was not bad", x.roundAt(2), 0);
        Check.due("round", x.round(0, 1), 2);
        Check.due("the latest", x.roundAt(0), 0);
        Check.due("of the one before none is left", x.roundAt(1), NONE);
        Check.due("round over none", x.round(0, 0), 0);
        Check.due("of the one before none is left", x.roundAt(0), NONE);
    }

    private static void joinedByMarks() {
        Document.promise(34, "The i-th FOUND NOTICE that is JOINED with a LOST one by k MARKS (1 .. 16); NONE: none such.");
        Document.terms("if k of their MARKS (0 .. 15, told for each) at least are in both.");
        for (int many = 0; many <= 16; many++) {
            CriersOffice x = office(1);
            x.notice(4, 0, 1, 1, 65535);
            x.notice(5, 0, 1, 1, (1 << many) - 1);
            for (int k = 1; k <= 16; k++) {
                Check.due(many + " marks in both, by " + k, x.joined(1, k, 0), k <= many ? 2 : NONE);
                Check.due("a second one", x.joined(1, k, 1), NONE);
            }
            Check.due("by 0", x.joined(1, 0, 0), BAD);
            Check.due("by 17", x.joined(1, 17, 0), BAD);
        }
        for (int bit = 0; bit <= 15; bit++) {
            CriersOffice x = office(1);
            x.notice(4, 0, 1, 1, 1 << bit);
            x.notice(5, 0, 1, 1, 65535 ^ 1 << bit);
            Check.due("mark " + bit + " in one alone", x.joined(1, 1, 0), NONE);
            x.notice(5, 0, 1, 1, 1 << bit);
            Check.due("mark " + bit + " in both", x.joined(1, 1, 0), 3);
        }
    }

    private static void joinedOfLost() {
        Document.promise(34, "BAD: k, the NOTICE;");
        Busy.indices("joined", 1, (x, i) -> x.joined(2, 1, i));
        for (int k : new int[] {0, 17, -1, MIN, MAX}) {
            Busy.refused("joined by " + k, BAD, x -> x.joined(2, k, 0));
            Busy.refused("joined by " + k + " of one that is unlike", BAD, x -> x.joined(3, k, 0));
        }
        Busy.refused("joined by 16", NONE, x -> x.joined(2, 16, 0));
        for (int n : new int[] {-1, 4, MIN, MAX}) {
            Busy.refused("joined of notice " + n, BAD, x -> x.joined(n, 1, 0));
        }
        CriersOffice x = Check.withSquares(0, 0);
        Check.write(x, 0, "a");
        x.notice(4, 0, 1, 1, 1);
        for (int i = 1; i < 40; i++) {
            x.notice(5, 0, 1, 1, 1);
        }
        Check.due("the first of 39, of the first notice", x.joined(0, 1, 0), 1);
        Check.due("the last of 39", x.joined(0, 1, 38), 39);
        Check.due("behind the last of 39", x.joined(0, 1, 39), NONE);
    }

    private static void joinedUnlike() {
        Document.promise(34, "UNLIKE: it is not LOST (a FOUND one, too).");
        Busy.found("joined of a notice", UNLIKE, x -> x.joined(0, 1, 0));
        Busy.found("joined of a law", UNLIKE, x -> x.joined(1, 1, 0));
        Busy.found("joined of a found one", UNLIKE, x -> x.joined(3, 1, 0));
        Busy.found("joined of a found one, none such", UNLIKE, x -> x.joined(3, 16, -1));
        Busy.taken("joined of a lost one", x -> x.joined(2, 1, 0));
        CriersOffice x = office(1);
        int unlike = 0;
        for (int kind = 0; kind <= 5; kind++) {
            x.notice(kind, 0, 1, 1, 65535);
            int got = x.joined(kind + 1, 1, 0);
            if (kind == 4) {
                Check.due("joined of a lost one", got, NONE);
            } else {
                unlike++;
                Check.found(x, "joined of kind " + kind, got, UNLIKE, unlike);
            }
        }
    }

    private static void joinedNotTakenBack() {
        Document.terms("JOINED are a LOST NOTICE (KIND 4) and a FOUND one, neither of them TAKEN BACK,");
        CriersOffice x = office(1);
        x.notice(4, 0, 1, 1, 1);
        x.notice(5, 0, 1, 1, 1);
        x.notice(5, 0, 1, 1, 1);
        Check.due("joined", x.joined(1, 1, 0), 2);
        x.back(2);
        Check.due("a found one taken back", x.joined(1, 1, 0), 3);
        Check.due("and there is no second one", x.joined(1, 1, 1), NONE);
        x.back(1);
        Check.due("the lost one taken back", x.joined(1, 1, 0), NONE);
        Check.due("nor for the found one", x.mark(3, 5), 0);
        for (int first = 4; first <= 5; first++) {
            CriersOffice y = Check.withSquares(0, 0);
            Check.write(y, 0, "a");
            y.notice(first, 0, 1, 1, 1);
            y.notice(9 - first, 0, 1, 1, 1);
            Check.due("the first notice and the second", y.joined(first - 4, 1, 0), 5 - first);
            Check.due("and of them the found one", y.mark(5 - first, 5), 1);
        }
    }
}
