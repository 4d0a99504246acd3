/** Promises 1 to 7: a new object, square, walk, hearing, later, move, market. */
public final class SquaresTest {
    private static final int BAD = CriersOffice.BAD, FULL = CriersOffice.FULL, STATE = CriersOffice.STATE;

    public static void main(String[] args) {
        newObject();
        squares();
        walks();
        hearing();
        later();
        movesRefused();
        movesInOrder();
        movesKnown();
        Check.end();
    }

    private static void newObject() {
        CriersOffice x = new CriersOffice();
        for (int what = 0; what <= 6; what++) {
            Check.due("new count(" + what + ")", x.count(what), 0);
        }
        for (int f = 1; f <= 5; f++) {
            Check.due("new findings(" + f + ")", x.findings(f), 0);
        }
        Check.due("new finding()", x.finding(), 0);
        Check.due("new roundAt(0)", x.roundAt(0), CriersOffice.NONE);
        Check.due("new cryTold(0, 0)", x.cryTold(0, 0), CriersOffice.NONE);
        Check.due("new hearing(5)", x.hearing(5), 5);
        for (int kind = 0; kind <= 5; kind++) {
            Check.due("new rate", x.rate(kind, 1), 1);
        }
        for (int s = 0; s <= 3; s++) {
            Check.found(x, "new tear", x.tear(s), 1, s + 1);
        }
    }

    private static void squares() {
        CriersOffice x = new CriersOffice();
        int[][] bad = {{-1, 0, 0}, {61, 0, 0}, {0, -1, 0}, {0, 61, 0}, {0, 0, -1}, {0, 0, 128},
            {Integer.MIN_VALUE, 0, 0}, {0, Integer.MAX_VALUE, 0}};
        for (int[] b : bad) {
            Check.due("square bad", x.square(b[0], b[1], b[2]), BAD);
        }
        Check.due("count", x.count(0), 0);
        for (int i = 0; i < 10; i++) {
            Check.due("square", x.square(60, 60, i == 0 ? 127 : 0), i);
        }
        Check.due("square 11th", x.square(0, 0, 0), FULL);
        Check.due("square 11th, bad", x.square(0, 0, 128), BAD);
        Check.due("count", x.count(0), 10);
    }

    private static void walks() {
        CriersOffice x = Check.withSquares(3, 9, 10, 4, 60, 60, 0, 0);
        Check.due("walk(0, 1)", x.walk(0, 1), 12);
        Check.due("walk(1, 0)", x.walk(1, 0), 12);
        Check.due("walk(2, 3)", x.walk(2, 3), 120);
        Check.due("walk(2, 2)", x.walk(2, 2), 0);
        Check.due("walk(4, 0)", x.walk(4, 0), BAD);
        Check.due("walk(0, 4)", x.walk(0, 4), BAD);
        Check.due("walk(-1, 0)", x.walk(-1, 0), BAD);
        Check.due("walk(0, -1)", x.walk(0, -1), BAD);
    }

    private static void hearing() {
        CriersOffice x = Check.withSquares(0, 0);
        Check.due("hearing(60)", x.hearing(60), 5);
        Check.due("hearing(0)", x.hearing(0), 60);
        Check.due("hearing(-1)", x.hearing(-1), BAD);
        Check.due("hearing(61)", x.hearing(61), BAD);
        Check.write(x, 0, "a");
        x.notice(0, 0, 1, 1, 0);
        x.crier(0);
        Check.due("cry", x.cry(0, 0, 0, 0), 1);
        Check.due("hearing after a cry", x.hearing(3), STATE);
        Check.due("hearing bad after a cry", x.hearing(61), BAD);
        x.later(1);
        Check.due("hearing on the next day", x.hearing(3), 0);
        Check.due("cry that does not count", x.cry(0, 0, 0, 0), 0);
        Check.due("hearing after a cry that did not count", x.hearing(4), STATE);
        x.later(1);
        Check.due("hearing was not changed", x.hearing(4), 3);
    }

    private static void later() {
        CriersOffice x = new CriersOffice();
        Check.due("later(0)", x.later(0), BAD);
        Check.due("later(-1)", x.later(-1), BAD);
        Check.due("later(401)", x.later(401), BAD);
        Check.due("later(MAX)", x.later(Integer.MAX_VALUE), BAD);
        Check.due("later(399)", x.later(399), 399);
        Check.due("later(2)", x.later(2), BAD);
        Check.due("later(1)", x.later(1), 400);
        Check.due("later(1)", x.later(1), BAD);
        Check.due("today", x.count(4), 400);
        Check.due("later(400)", new CriersOffice().later(400), 400);
    }

    private static void movesRefused() {
        CriersOffice x = Check.withSquares(0, 0);
        int[][] bad = {{-1, 0, 1, 0}, {1, 0, 1, 0}, {0, -1, 1, 0}, {0, 501, 1, 0}, {0, 0, -1, 0}, {0, 0, 501, 0},
            {0, 7, 7, 0}, {0, 0, 1, -1}, {0, 0, 1, 501}};
        for (int[] b : bad) {
            Check.due("move bad", x.move(b[0], b[1], b[2], b[3]), BAD);
        }
        x.later(3);
        Check.due("move known before today", x.move(0, 0, 1, 2), STATE);
        Check.due("moves", x.count(5), 0);
        for (int i = 1; i <= 40; i++) {
            Check.due("move", x.move(0, 0, 500, i == 1 ? 500 : 3), i);
        }
        Check.due("move 41st", x.move(0, 0, 1, 3), FULL);
        Check.due("move 41st, known before today", x.move(0, 0, 1, 2), FULL);
        Check.due("move 41st, bad", x.move(0, 1, 1, 3), BAD);
        Check.due("moves", x.count(5), 40);
    }

    private static void movesInOrder() {
        CriersOffice x = new CriersOffice();
        x.square(0, 0, 2);
        x.square(1, 0, 64);
        int[] days = {0, 0, 1, 1, 6, 0, 8, 1, 499, 0, 500, 0, 498, 1 - 1, 491, 1};
        for (int i = 0; i < days.length; i += 2) {
            Check.due("market " + days[i], x.market(0, days[i], 0), days[i] % 7 == 1 ? 1 : 0);
        }
        Check.due("market(1, 6)", x.market(1, 6, 0), 1);
        x.move(0, 1, 2, 0);
        Check.due("moved away", x.market(0, 1, 0), 0);
        Check.due("moved to", x.market(0, 2, 0), 1);
        Check.due("other days stay", x.market(0, 8, 0), 1);
        Check.due("other squares stay", x.market(1, 2, 0), 0);
        x.move(0, 2, 1, 0);
        Check.due("moved back", x.market(0, 1, 0), 1);
        Check.due("moved back from", x.market(0, 2, 0), 0);
        x.move(0, 3, 4, 0);
        Check.due("a move from a day without one", x.market(0, 4, 0), 1);
        x.move(0, 4, 5, 10);
        x.move(0, 6, 4, 0);
        Check.due("a later told one is done behind one that is known later", x.market(0, 4, 10), 1);
        Check.due("market bad square", x.market(2, 0, 0), BAD);
        Check.due("market bad square", x.market(-1, 0, 0), BAD);
        Check.due("market bad day", x.market(0, -1, 0), BAD);
        Check.due("market bad day", x.market(0, 501, 0), BAD);
        Check.due("market bad known", x.market(0, 0, -1), BAD);
        Check.due("market bad known", x.market(0, 0, 501), BAD);
    }

    private static void movesKnown() {
        CriersOffice x = new CriersOffice();
        x.square(0, 0, 1);
        x.move(0, 14, 15, 9);
        Check.due("not known yet", x.market(0, 14, 8), 1);
        Check.due("not known yet", x.market(0, 15, 8), 0);
        Check.due("known", x.market(0, 14, 9), 0);
        Check.due("known", x.market(0, 15, 9), 1);
        Check.due("known", x.market(0, 15, 500), 1);
    }
}
