/** The boundaries of promises 1 to 7, and of the Terms that they use. */
final class BoundsOfSquares {
    private static final int BAD = CriersOffice.BAD, FULL = CriersOffice.FULL, STATE = CriersOffice.STATE;

    private BoundsOfSquares() { }

    static void all() {
        newObject();
        places();
        weeks();
        tenSquares();
        walks();
        hearings();
        hearingOfSquares();
        hearingNotNow();
        laterDays();
        lastDay();
        onlyOn();
        movesOfDays();
        movesFromDayToItself();
        movesKnown();
        fortyMoves();
        markets();
        marketsByWeek();
        marketsMoved();
        marketsMovedInOrder();
    }

    private static void newObject() {
        Document.promise(1, "No SQUARES, CRIERS, NOTICES.");
        CriersOffice x = new CriersOffice();
        Check.due("SQUARES", x.count(0), 0);
        Check.due("CRIERS", x.count(1), 0);
        Check.due("NOTICES", x.count(2), 0);
        Check.due("no SQUARE 0", x.walk(0, 0), BAD);
        Check.due("no CRIER 0", x.round(0, 0), BAD);
        Check.due("no NOTICE 0", x.fee(0), BAD);
        Check.due("the first SQUARE", x.square(0, 0, 0), 0);
        Check.due("SQUARE 0", x.walk(0, 0), 0);
        Check.due("the first CRIER", x.crier(0), 0);
        Check.due("CRIER 0", x.round(0, 0), 0);
        Check.write(x, 0, "a");
        Check.due("the first NOTICE", x.notice(0, 0, 1, 1, 0), 0);
        Check.due("NOTICE 0", x.fee(0), 1);
    }

    private static void places() {
        Document.terms("SQUARES 0, 1, .. (10 at most) lie at (x, y), 0 .. 60 each.");
        Busy.range("square by x", 0, 60, (x, v) -> x.square(v, 7, 0));
        Busy.range("square by y", 0, 60, (x, v) -> x.square(7, v, 0));
        CriersOffice x = Check.withSquares(0, 0, 60, 60, 60, 0, 0, 60);
        Check.due("as far apart as can be", x.walk(0, 1), 120);
        Check.due("as far apart as can be", x.walk(2, 3), 120);
        Check.due("along one side", x.walk(0, 2), 60);
    }

    private static void weeks() {
        Document.promise(2, "with a WEEK (0 .. 127): its number. BAD; FULL.");
        Busy.range("square by week", 0, 127, (x, v) -> x.square(7, 7, v));
        CriersOffice x = new CriersOffice();
        x.square(0, 0, 0);
        x.square(0, 0, 127);
        for (int day = 0; day < 15; day++) {
            Check.due("market of no week on " + day, x.market(0, day, 0), 0);
            Check.due("market of a whole week on " + day, x.market(1, day, 0), 1);
        }
    }

    private static void tenSquares() {
        CriersOffice x = new CriersOffice();
        for (int i = 0; i < 10; i++) {
            Check.due("square", x.square(i, 0, 0), i);
        }
        Check.due("the 11th square", x.square(10, 0, 0), FULL);
        Check.due("SQUARES", x.count(0), 10);
        Check.due("the 10th is there", x.walk(0, 9), 9);
        Check.due("the 11th is not", x.walk(0, 10), BAD);
        Busy.refused(Busy::full, "square", FULL, y -> y.square(60, 60, 127));
        Busy.refused(Busy::full, "square, bad and full", BAD, y -> y.square(60, 60, 128));
    }

    private static void walks() {
        Document.promise(3, "WALK of two SQUARES. BAD.");
        Busy.range("walk from", 0, 2, (x, v) -> x.walk(v, 1));
        Busy.range("walk to", 0, 2, (x, v) -> x.walk(1, v));
        CriersOffice x = Check.withSquares(5, 5);
        Check.due("walk to itself", x.walk(0, 0), 0);
    }

    private static void hearings() {
        Document.promise(4, "HEARING is h: what it was. BAD;");
        Busy.range(Busy::nextDay, "hearing", 0, 60, (x, v) -> x.hearing(v));
        CriersOffice x = new CriersOffice();
        Check.due("what it was at first", x.hearing(0), 5);
        Check.due("what it was", x.hearing(60), 0);
        Check.due("too far", x.hearing(61), BAD);
        Check.due("what it was", x.hearing(1), 60);
    }

    private static void hearingOfSquares() {
        Document.terms("HEARING: h minutes (0 .. 60; 5 at first): two SQUARES are in HEARING of one another if their"
            + " WALK is h at most.");
        inHearing(-1, 5);
        for (int h : new int[] {0, 1, 5, 59, 60}) {
            inHearing(h, h);
        }
    }

    /** SQUARES that lie h apart and h + 1 apart; the one is in HEARING, the other is not, to be heard and drowned. */
    private static void inHearing(int told, int h) {
        CriersOffice x = Check.withSquares(0, 0, h, 0, h - h / 2, h / 2 + 1);
        if (told >= 0) {
            Check.due("hearing", x.hearing(told), 5);
        }
        Check.write(x, 0, "a");
        x.notice(0, 0, 7, 1, 0);
        for (int s = 0; s < 3; s++) {
            x.crier(s);
            x.present(s, s, 100, 100);
        }
        Check.due("cry by hearing " + h, x.cry(0, 0, 0, 100), 1);
        Check.due("heard where it is, by " + h, x.heard(0, 0), 1);
        Check.due("heard " + h + " away", x.heard(1, 0), 1);
        Check.due("not heard " + (h + 1) + " away", x.heard(2, 0), 0);
        Check.due("drowned " + h + " away", x.cry(0, 1, 1, 100), CriersOffice.BARRED);
        Check.due("not drowned " + (h + 1) + " away", x.cry(0, 2, 2, 100), 1);
    }

    private static void hearingNotNow() {
        Document.promise(4, "STATE: there was a CRY today.");
        Busy.refused("hearing on a day with a CRY", STATE, x -> x.hearing(7));
        Busy.taken(Busy::nextDay, "hearing on the next day", x -> x.hearing(7));
        Busy.refused("hearing, bad and not now", BAD, x -> x.hearing(61));
        CriersOffice x = Check.withSquares(0, 0);
        Check.write(x, 0, "a");
        x.notice(0, 0, 1, 1, 0);
        x.crier(0);
        Check.due("ahead of the CRY", x.hearing(6), 5);
        Check.due("a refused CRY", x.cry(0, 0, 0, 1440), BAD);
        Check.due("a refused CRY is none", x.hearing(7), 6);
        Check.due("a CRY", x.cry(0, 0, 0, 0), 1);
        Check.due("behind the CRY", x.hearing(8), STATE);
    }

    private static void laterDays() {
        Document.promise(5, "TODAY is n days later (1 .. 400): it. BAD:");
        Busy.range("later from day 1", 1, 399, (x, v) -> x.later(v));
        Check.due("400 days later", new CriersOffice().later(400), 400);
        Check.due("401 days later", new CriersOffice().later(401), BAD);
        Check.due("1 day later", new CriersOffice().later(1), 1);
        Check.due("0 days later", new CriersOffice().later(0), BAD);
    }

    private static void lastDay() {
        Document.promise(5, "beyond 400, too.");
        CriersOffice x = new CriersOffice();
        Check.due("later", x.later(399), 399);
        Check.due("to 401", x.later(2), BAD);
        Check.due("to 799", x.later(400), BAD);
        Check.due("a sum that wraps around", x.later(Integer.MAX_VALUE), BAD);
        Check.due("TODAY", x.count(4), 399);
        Check.due("to 400", x.later(1), 400);
        Check.due("to 401", x.later(1), BAD);
        Check.due("TODAY", x.count(4), 400);
    }

    private static void onlyOn() {
        Document.terms("TODAY is a day (0 .. 400; 0 at first), which only goes on.");
        CriersOffice x = new CriersOffice();
        Check.due("at first", x.count(4), 0);
        x.later(2);
        Check.due("back", x.later(-1), BAD);
        Check.due("back to 0", x.later(-2), BAD);
        Check.due("back by one that wraps around", x.later(Integer.MIN_VALUE), BAD);
        Check.due("TODAY", x.count(4), 2);
    }

    private static void movesOfDays() {
        Document.promise(6, "from day a to day b (0 .. 500), known from day c on: how many there are. BAD:");
        Busy.range("move of square", 0, 2, (x, v) -> x.move(v, 7, 8, 1));
        Busy.range("move from day", 0, 500, (x, v) -> x.move(0, v, 8, 1));
        Busy.range("move to day", 0, 500, (x, v) -> x.move(0, 8, v, 1));
        CriersOffice x = Check.withSquares(0, 0);
        Check.due("how many", x.move(0, 0, 500, 0), 1);
        Check.due("how many", x.move(0, 500, 0, 500), 2);
    }

    private static void movesFromDayToItself() {
        Document.promise(6, "a is b, too;");
        for (int day : new int[] {0, 1, 250, 500}) {
            Busy.refused("move to the same day " + day, BAD, x -> x.move(0, day, day, 1));
        }
        Busy.taken("move to the next day", x -> x.move(0, 499, 500, 1));
        Busy.taken("move to the day before", x -> x.move(0, 1, 0, 1));
    }

    private static void movesKnown() {
        Document.promise(6, "STATE: c is before TODAY.");
        Busy.refused("known from the day before TODAY on", STATE, x -> x.move(0, 7, 8, 0));
        Busy.taken("known from TODAY on", x -> x.move(0, 7, 8, 1));
        Busy.taken("known from the last day on", x -> x.move(0, 7, 8, 500));
        for (int c : new int[] {-1, 501, Integer.MIN_VALUE, Integer.MAX_VALUE}) {
            Busy.refused("known from what is no day, " + c, BAD, x -> x.move(0, 7, 8, c));
        }
        CriersOffice x = Check.withSquares(0, 0);
        x.later(400);
        Check.due("known from 399 on", x.move(0, 7, 8, 399), STATE);
        Check.due("known from 400 on", x.move(0, 7, 8, 400), 1);
    }

    private static void fortyMoves() {
        Document.terms("but for MOVES (40 at most):");
        Document.promise(6, "FULL;");
        CriersOffice x = Check.withSquares(0, 0, 0, 0);
        x.later(1);
        for (int i = 1; i <= 40; i++) {
            Check.due("move", x.move(i % 2, 6 + i, 5 + i, 1), i);
        }
        Check.due("the 41st move", x.move(0, 100, 101, 1), FULL);
        Check.due("MOVES", x.count(5), 40);
        Check.due("the 40th was done", x.market(0, 46, 1), 0);
        Check.due("the 41st was not", x.market(0, 100, 1), 1);
        Busy.refused(Busy::full, "move", FULL, y -> y.move(0, 7, 8, 1));
        Busy.refused(Busy::full, "move, full and not now", FULL, y -> y.move(0, 7, 8, 0));
        Busy.refused(Busy::full, "move, bad and full", BAD, y -> y.move(0, 7, 7, 1));
    }

    private static void markets() {
        Document.promise(7, "on a day (0 .. 500), as known on a day (0 .. 500): 1, 0. BAD.");
        Busy.range("market of square", 0, 2, (x, v) -> x.market(v, 7, 7));
        Busy.range("market on day", 0, 500, (x, v) -> x.market(1, v, 7));
        Busy.range("market known on day", 0, 500, (x, v) -> x.market(1, 7, v));
    }

    private static void marketsByWeek() {
        Document.terms("A SQUARE has MARKET on days whose remainder by 7 is in its WEEK (bits 0 .. 6),");
        for (int bit = 0; bit <= 6; bit++) {
            CriersOffice x = new CriersOffice();
            x.square(0, 0, 1 << bit);
            for (int day = 0; day <= 500; day += day == 14 ? 472 : 1) {
                Check.due("market of bit " + bit + " on " + day, x.market(0, day, 0), day % 7 == bit ? 1 : 0);
            }
        }
    }

    private static void marketsMoved() {
        Document.terms("day a to day b, known from a day on: from then on it has none on a (if it had), and has on b;");
        CriersOffice x = new CriersOffice();
        x.square(0, 0, 1);
        x.square(0, 0, 1);
        x.move(0, 7, 500, 5);
        marketIs(x, "a day before it is known", 4, 1, 0);
        marketIs(x, "on the day from which it is known", 5, 0, 1);
        marketIs(x, "a day later", 6, 0, 1);
        marketIs(x, "on the last day", 500, 0, 1);
        Check.due("the day before a", x.market(0, 6, 5), 0);
        Check.due("the day behind a", x.market(0, 8, 5), 0);
        Check.due("a week before a", x.market(0, 0, 5), 1);
        Check.due("a week behind a", x.market(0, 14, 5), 1);
        Check.due("the day before b", x.market(0, 499, 5), 0);
        Check.due("another SQUARE's a", x.market(1, 7, 5), 1);
        Check.due("another SQUARE's b", x.market(1, 500, 5), 0);
        x.move(0, 3, 7, 0);
        Check.due("from a day that has none", x.market(0, 3, 0), 0);
        Check.due("to a day that has one", x.market(0, 7, 0), 1);
    }

    private static void marketIs(CriersOffice x, String when, int known, int onA, int onB) {
        Check.due("on a, " + when, x.market(0, 7, known), onA);
        Check.due("on b, " + when, x.market(0, 500, known), onB);
    }

    private static void marketsMovedInOrder() {
        Document.terms("of MOVES the later told ones are done behind the others.");
        CriersOffice x = new CriersOffice();
        x.square(0, 0, 1);
        x.move(0, 7, 8, 9);
        x.move(0, 8, 7, 3);
        Check.due("to and fro: a", x.market(0, 7, 9), 1);
        Check.due("to and fro: b", x.market(0, 8, 9), 0);
        x.move(0, 7, 8, 5);
        Check.due("and to again: a", x.market(0, 7, 9), 0);
        Check.due("and to again: b", x.market(0, 8, 9), 1);
        Check.due("as known before the last one: a", x.market(0, 7, 4), 1);
        Check.due("as known before the last one: b", x.market(0, 8, 4), 0);
    }
}
