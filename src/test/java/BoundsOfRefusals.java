/** What refused calls answer, in which order, and that they change nothing but finding(), findings(). */
final class BoundsOfRefusals {
    private static final int BAD = CriersOffice.BAD, FULL = CriersOffice.FULL, STATE = CriersOffice.STATE,
        BARRED = CriersOffice.BARRED, NONE = CriersOffice.NONE;
    private static final int NOTHING = 1, BEYOND = 2, UNLIKE = 3, SIZE = 5;

    private BoundsOfRefusals() { }

    static void all() {
        numbers();
        badAheadOfAll();
        fullAheadOfTheRest();
        stateAheadOfBarred();
        barredAheadOfFindings();
        changesNothing();
        none();
    }

    private static void numbers() {
        Document.terms("BAD -1 (a number that is none, or not as told), FULL -2, STATE -4 (not now), BARRED -5, FINDING -3"
            + " (finding() tells which),");
        Check.due("BAD", CriersOffice.BAD, -1);
        Check.due("FULL", CriersOffice.FULL, -2);
        Check.due("FINDING", CriersOffice.FINDING, -3);
        Check.due("STATE", CriersOffice.STATE, -4);
        Check.due("BARRED", CriersOffice.BARRED, -5);
    }

    private static void badAheadOfAll() {
        Document.terms("Refused is, the first of these that fits, in this order:");
        Busy.refused(Busy::full, "square, bad and full", BAD, x -> x.square(0, 61, 0));
        Busy.refused(Busy::full, "crier, bad and full", BAD, x -> x.crier(-1));
        Busy.refused(Busy::full, "move, bad and full", BAD, x -> x.move(10, 7, 8, 1));
        Busy.refused(Busy::full, "present, bad and full", BAD, x -> x.present(10, 0, 0, 0));
        Busy.refused(Busy::full, "notice, bad and full", BAD, x -> x.notice(6, 1, 1, 1, 0));
        Busy.refused("hearing, bad and not now", BAD, x -> x.hearing(-1));
        Busy.refused("move, bad and not now", BAD, x -> x.move(0, 7, 7, 0));
        Busy.refused("back, bad", BAD, x -> x.back(-1));
        Busy.refused("cry, bad and not now", BAD, x -> x.cry(4, 0, 2, 0));
        Busy.refused("cry, bad and drowned", BAD, x -> x.cry(4, 1, 1, 30));
        Busy.refused("notice, bad and barred", BAD, x -> x.notice(0, 0, 0, 1, 0));
        Busy.refused("notice, bad and of nothing", BAD, x -> x.notice(0, 3, 1, 0, 0));
        Busy.refused("notice, bad and without words", BAD, x -> x.notice(0, 2, 1, 1, -1));
        Busy.refused("sheet, bad and of fewer than none", BAD, x -> x.sheet(-1, -1));
        Busy.refused("copy, bad and of fewer than none", BAD, x -> x.copy(0, 0, 4, 0, -1));
        Busy.refused("copy, bad and of nothing", BAD, x -> x.copy(-1, 0, 3, 0, 0));
        Busy.refused("copy, bad and beyond", BAD, x -> x.copy(1, 99, 4, 99, 99));
        Busy.refused("lay, bad and beyond", BAD, x -> x.lay(4, -1, 0));
        Busy.refused("mark, bad and unlike", BAD, x -> x.mark(0, 6));
        Busy.refused("joined, bad and unlike", BAD, x -> x.joined(0, 17, 0));
        Busy.refused("cryTold, bad and none such", BAD, x -> x.cryTold(-1, -1));
        Busy.refused("dueAt, bad and none such", BAD, x -> x.dueAt(-1, -1));
    }

    private static void fullAheadOfTheRest() {
        Busy.refused(Busy::full, "move, full and not now", FULL, x -> x.move(0, 7, 8, 0));
        Busy.refused(Busy::full, "notice, full and barred", FULL, x -> x.notice(0, 0, 1, 1, 0));
        Busy.refused(Busy::full, "notice, full and of nothing", FULL, x -> x.notice(0, 3, 1, 1, 0));
        Busy.refused(Busy::full, "notice, full and without words", FULL, x -> x.notice(0, 2, 1, 1, 0));
    }

    private static void stateAheadOfBarred() {
        Busy.refused("cry, not now and drowned", STATE, x -> x.cry(1, 1, 2, 30));
        Busy.refused("cry, drowned", BARRED, x -> x.cry(1, 1, 1, 30));
        Busy.taken("cry", x -> x.cry(1, 1, 1, 35));
    }

    private static void barredAheadOfFindings() {
        Document.terms("unless a call says so otherwise.");
        Busy.refused("notice, barred", BARRED, x -> x.notice(0, 0, 1, 1, 0));
        Busy.found(BoundsOfRefusals::barredSheetTorn, "notice, of what was barred and is torn", NOTHING,
            x -> x.notice(0, 0, 1, 1, 0));
    }

    private static CriersOffice barredSheetTorn() {
        CriersOffice x = Busy.office();
        x.tear(0);
        return x;
    }

    private static void changesNothing() {
        Document.terms("What is refused changes nothing but finding(), findings().");
        Busy.refused("hearing", STATE, x -> x.hearing(9));
        Busy.refused("move", STATE, x -> x.move(1, 8, 9, 0));
        Busy.refused("back", STATE, x -> x.back(0));
        Busy.refused("cry", STATE, x -> x.cry(1, 1, 2, 36));
        Busy.refused("cry", BARRED, x -> x.cry(1, 1, 1, 31));
        Busy.refused("notice", BARRED, x -> x.notice(4, 0, 1, 1, 1));
        Busy.found("notice", SIZE, x -> x.notice(4, 2, 1, 1, 1));
        Busy.found("notice", NOTHING, x -> x.notice(4, 3, 1, 1, 1));
        Busy.found("sheet", SIZE, x -> x.sheet(1, -1));
        Busy.found("lay", NOTHING, x -> x.lay(3, 0, 1));
        Busy.found("lay", BEYOND, x -> x.lay(1, 9, 1));
        Busy.found("tear", NOTHING, x -> x.tear(3));
        Busy.found("copy", SIZE, x -> x.copy(1, 0, 2, 0, -1));
        Busy.found("copy", NOTHING, x -> x.copy(1, 0, 3, 0, 1));
        Busy.found("copy", BEYOND, x -> x.copy(1, 0, 2, 0, 6));
        Busy.found("bar", NOTHING, x -> x.bar(3));
        Busy.found("barred", NOTHING, x -> x.barred(3));
        Busy.found("words", NOTHING, x -> x.words(3));
        Busy.found("mark", UNLIKE, x -> x.mark(2, 5));
        Busy.found("joined", UNLIKE, x -> x.joined(3, 1, 0));
    }

    private static void none() {
        Document.terms("NONE -9.");
        Check.due("NONE", CriersOffice.NONE, -9);
        Busy.refused("barred", NONE, x -> x.barred(1));
        Busy.refused("cryTold", NONE, x -> x.cryTold(2, 0));
        Busy.refused("dueAt", NONE, x -> x.dueAt(0, 9));
        Busy.refused("roundAt", NONE, x -> x.roundAt(3));
        Busy.refused("joined", NONE, x -> x.joined(2, 2, 0));
    }
}
