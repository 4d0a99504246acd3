/** What the tests share: answers that are compared, and sheets that are written from a text. */
final class Check {
    private static int wrong = 0;
    private static int made = 0;

    private Check() { }

    static void due(String call, long got, long want) {
        made++;
        if (got != want) {
            wrong++;
            System.out.println(call + " answered " + got + ", due is " + want);
        }
    }

    static void holds(String what, boolean yes) {
        made++;
        if (!yes) {
            wrong++;
            System.out.println("does not hold: " + what);
        }
    }

    /** Ends the test: exit code 1 if an answer was not as due, or if there was none at all. */
    static void end() {
        System.out.println(made + " answers, " + wrong + " not as due");
        if (wrong != 0 || made == 0) {
            System.exit(1);
        }
    }

    static void write(CriersOffice x, int s, String text) {
        due("sheet for '" + text + "'", x.sheet(s, text.length()), text.length());
        for (int i = 0; i < text.length(); i++) {
            due("lay for '" + text + "'", x.lay(s, i, text.charAt(i)), 1000);
        }
    }

    /** An office with a SQUARE at each (x, y), all with MARKET on every day. */
    static CriersOffice withSquares(int... places) {
        CriersOffice x = new CriersOffice();
        for (int i = 0; i + 1 < places.length; i += 2) {
            due("square", x.square(places[i], places[i + 1], 127), i / 2);
        }
        return x;
    }

    /** A FINDING was answered: the answer, the latest one and how often are as due. */
    static void found(CriersOffice x, String call, long got, int finding, int often) {
        due(call, got, CriersOffice.FINDING);
        due(call + " finding()", x.finding(), finding);
        due(call + " findings(" + finding + ")", x.findings(finding), often);
    }
}
