/** The boundaries of promises 8 to 14, and of the Terms that they use. */
final class BoundsOfSheets {
    private static final int BAD = CriersOffice.BAD, NONE = CriersOffice.NONE;
    private static final int NOTHING = 1, BEYOND = 2, SIZE = 5;
    private static final int MIN = Integer.MIN_VALUE, MAX = Integer.MAX_VALUE;

    private BoundsOfSheets() { }

    static void all() {
        sheets();
        sheetSizes();
        missingAtFirst();
        lays();
        laysOnNothing();
        laysBeyond();
        tears();
        copiesOfSheets();
        copiesOfSizes();
        copiesOfNothing();
        copiesBeyond();
        copiesAsIfTakenAhead();
        words();
        signsOfPieces();
        piecesAsLongAsCanBe();
        wordsOfFigures();
        bars();
        sixteenBarred();
        twelveSigns();
        longerOnesAndMore();
        alike();
        firstBarred();
    }

    private static void sheets() {
        Document.promise(8, "A SHEET is there with n signs 0: n. BAD: no SHEET, n above 80;");
        Busy.range("sheet", 0, 3, (x, v) -> x.sheet(v, 7));
        Busy.taken("sheet of 80", x -> x.sheet(1, 80));
        Busy.refused("sheet of 81", BAD, x -> x.sheet(1, 81));
        Busy.refused("sheet of MAX", BAD, x -> x.sheet(1, MAX));
        CriersOffice x = new CriersOffice();
        Check.write(x, 0, "z".repeat(80));
        Check.due("sheet", x.sheet(0, 80), 80);
        for (int i = 0; i < 80; i++) {
            Check.due("sign " + i, x.lay(0, i, 0), 1000);
        }
    }

    private static void sheetSizes() {
        Document.promise(8, "SIZE.");
        Document.terms("5 SIZE (fewer than none).");
        Busy.taken("sheet of none", x -> x.sheet(1, 0));
        Busy.found("sheet of fewer than none", SIZE, x -> x.sheet(1, -1));
        Busy.found("sheet of MIN", SIZE, x -> x.sheet(1, MIN));
        Busy.found("a missing sheet of fewer than none", SIZE, x -> x.sheet(3, -1));
        Busy.refused("no sheet, of fewer than none", BAD, x -> x.sheet(4, -1));
    }

    private static void missingAtFirst() {
        Document.terms("SHEETS 0 .. 3 are rows of 0 to 80 bytes, or missing (at first): signs.");
        Document.terms("1 NOTHING (a SHEET that is missing),");
        CriersOffice x = new CriersOffice();
        for (int s = 0; s <= 3; s++) {
            Check.found(x, "words of a SHEET at first", x.words(s), NOTHING, s + 1);
        }
        Check.due("SHEET 4", x.words(4), BAD);
        Check.due("SHEET -1", x.words(-1), BAD);
        for (int s = 0; s <= 3; s++) {
            Check.due("a SHEET of no sign", x.sheet(s, 0), 0);
            Check.due("is not missing", x.words(s), 0);
        }
    }

    private static void lays() {
        Document.promise(9, "Sign i of a SHEET is c, cut to a byte: what it was, and 1000 more. BAD;");
        Busy.range(Busy::withAllSheets, "lay", 0, 3, (x, v) -> x.lay(v, 0, 'x'));
        int[] told = {127, 128, -128, -129, 255, 256, -256, 65, 65 + 256, MAX, MIN, -1, 1, 0};
        int[] cut = {127, -128, -128, 127, -1, 0, 0, 65, 65, -1, 0, -1, 1, 0};
        CriersOffice x = new CriersOffice();
        x.sheet(0, 1);
        int was = 0;
        for (int i = 0; i < told.length; i++) {
            Check.due("lay " + told[i], x.lay(0, 0, told[i]), 1000 + was);
            was = cut[i];
        }
    }

    private static void laysOnNothing() {
        Document.promise(9, "NOTHING;");
        Busy.found("lay on a missing sheet", NOTHING, x -> x.lay(3, 0, 'a'));
        Busy.found("lay on a missing sheet, and beyond", NOTHING, x -> x.lay(3, -1, 'a'));
        Busy.taken("lay on one that is there", x -> x.lay(2, 0, 'a'));
    }

    private static void laysBeyond() {
        Document.promise(9, "BEYOND.");
        Document.terms("2 BEYOND (a place that there is not),");
        Busy.taken("lay on the first sign", x -> x.lay(2, 0, 'a'));
        Busy.taken("lay on the last sign", x -> x.lay(2, 4, 'a'));
        for (int i : new int[] {-1, 5, 79, 80, MIN, MAX}) {
            Busy.found("lay on sign " + i + " of 5", BEYOND, x -> x.lay(2, i, 'a'));
        }
        CriersOffice x = new CriersOffice();
        x.sheet(0, 0);
        Check.found(x, "lay on a sheet of none", x.lay(0, 0, 'a'), BEYOND, 1);
        x.sheet(0, 80);
        Check.due("lay on the last of 80", x.lay(0, 79, 'a'), 1000);
        Check.found(x, "lay behind the last of 80", x.lay(0, 80, 'a'), BEYOND, 2);
    }

    private static void tears() {
        Document.promise(10, "A SHEET is missing: 1. BAD; NOTHING.");
        Busy.range(Busy::withAllSheets, "tear", 0, 3, (x, v) -> x.tear(v));
        Busy.found("tear a missing one", NOTHING, x -> x.tear(3));
        CriersOffice x = new CriersOffice();
        x.sheet(0, 0);
        Check.due("tear an empty one", x.tear(0), 1);
        Check.found(x, "tear it twice", x.tear(0), NOTHING, 1);
        x.sheet(0, 80);
        Check.due("tear a new one", x.tear(0), 1);
    }

    private static void copiesOfSheets() {
        Document.promise(11, "1. BAD;");
        Busy.range(Busy::withAllSheets, "copy from", 0, 3, (x, v) -> x.copy(v, 0, 1, 0, 3));
        Busy.range(Busy::withAllSheets, "copy to", 0, 3, (x, v) -> x.copy(1, 0, v, 0, 3));
        Busy.refused("copy, bad and of fewer than none", BAD, x -> x.copy(4, 0, 1, 0, -1));
        Busy.refused("copy, bad and of nothing", BAD, x -> x.copy(3, 0, 4, 0, 1));
    }

    private static void copiesOfSizes() {
        Document.promise(11, "SIZE: n below 0;");
        Busy.taken("copy of none", x -> x.copy(1, 0, 2, 0, 0));
        Busy.found("copy of -1", SIZE, x -> x.copy(1, 0, 2, 0, -1));
        Busy.found("copy of MIN", SIZE, x -> x.copy(1, 0, 2, 0, MIN));
        Busy.found("copy of -1 of a missing one", SIZE, x -> x.copy(3, 0, 2, 0, -1));
        Busy.found("copy of -1 beyond", SIZE, x -> x.copy(1, 99, 2, -1, -1));
    }

    private static void copiesOfNothing() {
        Document.promise(11, "NOTHING: either;");
        Busy.found("copy from a missing one", NOTHING, x -> x.copy(3, 0, 1, 0, 0));
        Busy.found("copy to a missing one", NOTHING, x -> x.copy(1, 0, 3, 0, 0));
        Busy.found("copy within a missing one", NOTHING, x -> x.copy(3, 0, 3, 0, 0));
        Busy.found("copy from a missing one and beyond", NOTHING, x -> x.copy(3, 0, 1, 0, 10));
        Busy.found("copy to a missing one and beyond", NOTHING, x -> x.copy(1, 0, 3, 0, 10));
        Busy.taken("copy of two that are there", x -> x.copy(1, 0, 2, 0, 1));
    }

    private static void copiesBeyond() {
        Document.promise(11, "BEYOND: not so many there.");
        int[][] there = {{0, 0, 5}, {4, 0, 5}, {4, 1, 4}, {8, 4, 1}, {9, 5, 0}, {0, 0, 0}};
        for (int[] c : there) {
            Busy.taken("copy " + c[2] + " from " + c[0] + " to " + c[1], x -> x.copy(1, c[0], 2, c[1], c[2]));
        }
        int[][] beyond = {{0, 0, 6}, {5, 0, 5}, {4, 1, 5}, {0, 1, 5}, {9, 0, 1}, {0, 5, 1}, {10, 0, 0}, {0, 6, 0},
            {-1, 0, 1}, {0, -1, 1}, {-1, 0, 0}, {0, -1, 0}, {MAX, 0, 1}, {0, MAX, 1}, {1, 0, MAX}, {0, 1, MAX},
            {MAX, 0, MAX}, {0, MAX, MAX}, {MAX, MAX, 2}, {MIN, 0, 0}, {0, MIN, 0}, {MIN, 0, MAX}, {MAX, 0, 0}};
        for (int[] c : beyond) {
            Busy.found("copy " + c[2] + " from " + c[0] + " to " + c[1], BEYOND, x -> x.copy(1, c[0], 2, c[1], c[2]));
        }
        CriersOffice x = new CriersOffice();
        x.sheet(0, 80);
        Check.due("copy a whole sheet", x.copy(0, 0, 0, 0, 80), 1);
        Check.found(x, "copy more than a whole sheet", x.copy(0, 0, 0, 0, 81), BEYOND, 1);
        x.sheet(0, 0);
        Check.due("copy an empty sheet", x.copy(0, 0, 0, 0, 0), 1);
        Check.found(x, "copy of an empty sheet", x.copy(0, 0, 0, 0, 1), BEYOND, 2);
    }

    private static void copiesAsIfTakenAhead() {
        Document.promise(11, "come to those of another one (perhaps itself) from one on, as if taken ahead:");
        String[] due = {"abcdef", "aabcde", "bcdeff"};
        int[][] calls = {{0, 0, 6}, {0, 1, 5}, {1, 0, 5}};
        for (int i = 0; i < due.length; i++) {
            CriersOffice x = new CriersOffice();
            Check.write(x, 0, "abcdef");
            Check.due("copy onto itself", x.copy(0, calls[i][0], 0, calls[i][1], calls[i][2]), 1);
            for (int at = 0; at < 6; at++) {
                Check.due("sign " + at + " of " + due[i], x.lay(0, at, 0), 1000 + due[i].charAt(at));
            }
        }
    }

    private static void words() {
        Document.promise(12, "WORDS of a SHEET. BAD; NOTHING.");
        Busy.range(Busy::withAllSheets, "words", 0, 3, (x, v) -> x.words(v));
        Busy.found("words of a missing one", NOTHING, x -> x.words(3));
        Busy.taken("words of one without any", x -> x.words(2));
        CriersOffice x = new CriersOffice();
        x.sheet(0, 0);
        Check.due("words of an empty sheet", x.words(0), 0);
        x.sheet(0, 80);
        Check.due("words of signs 0", x.words(0), 0);
        x.lay(0, 79, 'a');
        Check.due("a word at the end", x.words(0), 1);
        x.lay(0, 0, 'a');
        Check.due("a word at the beginning", x.words(0), 2);
        Check.due("a part of a SHEET that was longer", wordsBehindLonger(), 1);
    }

    private static int wordsBehindLonger() {
        CriersOffice x = new CriersOffice();
        Check.write(x, 0, "a b c");
        Check.write(x, 0, "a");
        return x.words(0);
    }

    private static void signsOfPieces() {
        Document.terms("WORDS are counted so: a PIECE is a run of letters (a .. z, A .. Z) and figures,");
        for (int c = -128; c < 256; c++) {
            CriersOffice x = new CriersOffice();
            x.sheet(0, 1);
            x.lay(0, 0, c);
            boolean letter = c >= 'a' && c <= 'z' || c >= 'A' && c <= 'Z';
            boolean figure = c >= '0' && c <= '9';
            Check.due("words of sign " + c, x.words(0), letter || figure ? 1 : 0);
        }
    }

    private static void piecesAsLongAsCanBe() {
        Document.terms("as long as can be; one that begins with a letter is a word;");
        for (int n = 1; n <= 80; n++) {
            counts("b".repeat(n), 1);
            counts("b" + "7".repeat(n - 1), 1);
        }
        for (String apart : new String[] {"/", ":", "@", "[", "`", "{", " ", "\0", "\u00e9", "\u00ff"}) {
            counts("z" + apart + "Z", 2);
            counts(apart + "9" + apart + "0" + apart, 2);
        }
        counts("zZ", 1);
        counts("a ".repeat(40), 40);
        counts(" a".repeat(40), 40);
    }

    private static void wordsOfFigures() {
        Document.terms("one that begins with a figure counts as one for each three of its signs (and for what is over).");
        for (int n = 1; n <= 80; n++) {
            int due = n % 3 == 0 ? n / 3 : n / 3 + 1;
            counts("0".repeat(n), due);
            counts("9" + "x".repeat(n - 1), due);
        }
        counts("123 4567", 3);
        counts("1234a", 2);
        counts("a1234", 1);
    }

    private static void counts(String text, int words) {
        CriersOffice x = new CriersOffice();
        Check.write(x, 3, text);
        Check.due("words of '" + text + "'", x.words(3), words);
    }

    private static void bars() {
        Document.promise(13, "BARRED PIECES are those of a SHEET: how many. BAD; NOTHING.");
        Busy.range(Busy::withAllSheets, "bar", 0, 3, (x, v) -> x.bar(v));
        Busy.found("bar a missing one", NOTHING, x -> x.bar(3));
        CriersOffice x = Busy.office();
        Check.due("bar of a sheet without pieces", x.bar(2), 0);
        Check.due("BARRED PIECES", x.count(6), 0);
        Check.due("what was BARRED is so no more", x.barred(0), NONE);
        x.sheet(2, 0);
        Check.due("bar of an empty sheet", x.bar(2), 0);
    }

    private static void sixteenBarred() {
        Document.terms("BARRED PIECES: those of a SHEET that was told so (16 at most,");
        for (int many = 15; many <= 17; many++) {
            CriersOffice x = new CriersOffice();
            Check.write(x, 0, "a b c d e f g h i j k l m n o p q".substring(0, 2 * many - 1));
            Check.due("bar of " + many, x.bar(0), Math.min(many, 16));
            Check.due("BARRED PIECES", x.count(6), Math.min(many, 16));
            Check.write(x, 1, "" + (char) ('a' + many - 1));
            Check.due("the last of " + many, x.barred(1), many <= 16 ? 0 : NONE);
        }
    }

    private static void twelveSigns() {
        Document.terms("of 12 signs at most;");
        for (int n = 1; n <= 80; n++) {
            CriersOffice x = new CriersOffice();
            Check.write(x, 0, "k".repeat(n));
            Check.due("bar of " + n + " signs", x.bar(0), n <= 12 ? 1 : 0);
            Check.due("barred " + n + " signs", x.barred(0), n <= 12 ? 0 : NONE);
        }
        CriersOffice x = new CriersOffice();
        Check.write(x, 0, "abcdefghijkl");
        x.bar(0);
        Check.write(x, 1, "abcdefghijklm abcdefghijk abcdefghijk1 bcdefghijkl");
        Check.due("one that only begins, or ends, as one of 12 signs", x.barred(1), NONE);
        Check.write(x, 1, "abcdefghijkl");
        Check.due("12 signs", x.barred(1), 0);
        Check.write(x, 0, "a b c d e f g h i j k l m n o abcdefghijkl");
        Check.due("bar of 16, the last one of 12 signs", x.bar(0), 16);
        Check.due("the 16th, of 12 signs", x.barred(1), 0);
        Check.write(x, 0, ".".repeat(68) + "abcdefghijkl");
        Check.due("bar of 12 signs at the end of 80", x.bar(0), 1);
        Check.due("12 signs at the end of 80", x.barred(0), 68);
    }

    private static void longerOnesAndMore() {
        Document.terms("longer ones and more are not looked at).");
        CriersOffice x = new CriersOffice();
        Check.write(x, 0, "abcdefghijklm a b c d e f g h i j k l m n o p q");
        Check.due("bar of a longer one, then 17", x.bar(0), 16);
        Check.write(x, 1, "abcdefghijklm q p");
        Check.due("only the 16th short one is barred", x.barred(1), 16);
        Check.write(x, 0, "abcdefghijklm nopqrstuvwxyz b");
        Check.due("bar of longer ones, then one", x.bar(0), 1);
        Check.write(x, 1, "nopqrstuvwxyz a b");
        Check.due("of the sheet before none is left", x.barred(1), 16);
    }

    private static void alike() {
        Document.terms("Two PIECES are ALIKE if they have the same signs, great letters being as small ones.");
        for (char c = 'a'; c <= 'z'; c++) {
            char great = (char) (c - 'a' + 'A');
            CriersOffice x = new CriersOffice();
            Check.write(x, 0, "1" + c);
            Check.write(x, 1, "1" + great);
            x.bar(0);
            Check.due("barred " + great + " by " + c, x.barred(1), 0);
            x.bar(1);
            Check.due("barred " + c + " by " + great, x.barred(0), 0);
            Check.write(x, 0, "1" + (c == 'z' ? 'a' : (char) (c + 1)));
            Check.due("not by another letter than " + c, x.barred(0), NONE);
        }
        CriersOffice x = new CriersOffice();
        Check.write(x, 0, "p0 Q9");
        x.bar(0);
        Check.write(x, 1, "0p pP q pP0 00 p1");
        Check.due("figures are no letters", x.barred(1), NONE);
    }

    private static void firstBarred() {
        Document.promise(14, "The place in a SHEET at which the first PIECE that is BARRED begins; NONE: none. BAD;"
            + " NOTHING.");
        Busy.taken("barred in SHEET 0", x -> x.barred(0));
        for (int s : new int[] {-1, 4, MIN, MAX}) {
            Busy.refused("barred in SHEET " + s, BAD, x -> x.barred(s));
        }
        Busy.refused("barred without any piece", NONE, x -> x.barred(2));
        Busy.refused("barred with pieces that are not", NONE, x -> x.barred(1));
        Busy.found("barred of a missing one", NOTHING, x -> x.barred(3));
        CriersOffice x = Busy.office();
        x.sheet(3, 80);
        Check.due("SHEET 3", x.barred(3), NONE);
        layAt(x, 77, "ale");
        Check.due("at the end", x.barred(3), 77);
        layAt(x, 76, "x");
        Check.due("not one that is longer", x.barred(3), NONE);
        layAt(x, 70, "gin");
        Check.due("the first of all", x.barred(3), 70);
        layAt(x, 0, "ALE");
        Check.due("at the beginning", x.barred(3), 0);
        x.sheet(3, 0);
        Check.due("of an empty sheet", x.barred(3), NONE);
        Check.due("with nothing barred", barredByNone(), NONE);
    }

    private static int barredByNone() {
        CriersOffice x = new CriersOffice();
        Check.write(x, 0, "a");
        return x.barred(0);
    }

    private static void layAt(CriersOffice x, int at, String text) {
        for (int i = 0; i < text.length(); i++) {
            x.lay(3, at + i, text.charAt(i));
        }
    }
}
