/** Promises 8 to 14: sheet, lay, tear, copy, words, bar, barred. */
public final class SheetsTest {
    private static final int BAD = CriersOffice.BAD, NONE = CriersOffice.NONE;
    private static final int NOTHING = 1, BEYOND = 2, SIZE = 5;

    public static void main(String[] args) {
        sheets();
        lays();
        tears();
        copies();
        copiesRefused();
        words();
        bars();
        barsManyAndLong();
        Check.end();
    }

    private static void sheets() {
        CriersOffice x = new CriersOffice();
        Check.due("sheet(-1, 1)", x.sheet(-1, 1), BAD);
        Check.due("sheet(4, 1)", x.sheet(4, 1), BAD);
        Check.due("sheet(4, -1)", x.sheet(4, -1), BAD);
        Check.due("sheet(0, 81)", x.sheet(0, 81), BAD);
        Check.found(x, "sheet(0, -1)", x.sheet(0, -1), SIZE, 1);
        Check.found(x, "still missing", x.words(0), NOTHING, 1);
        Check.due("sheet(0, 80)", x.sheet(0, 80), 80);
        Check.due("lay", x.lay(0, 79, 'a'), 1000);
        Check.due("sheet(0, 80) anew", x.sheet(0, 80), 80);
        Check.due("signs are 0 again", x.lay(0, 79, 'b'), 1000);
        Check.due("sheet(0, 0)", x.sheet(0, 0), 0);
        Check.found(x, "no sign", x.lay(0, 0, 1), BEYOND, 1);
        Check.due("longer again", x.sheet(0, 80), 80);
        Check.due("nothing of the longer one is left", x.lay(0, 79, 1), 1000);
        Check.found(x, "sheet there, -1", x.sheet(0, -1), SIZE, 2);
        Check.due("and it is as it was", x.lay(0, 79, 0), 1001);
    }

    private static void lays() {
        CriersOffice x = new CriersOffice();
        Check.due("lay bad", x.lay(4, 0, 0), BAD);
        Check.due("lay bad", x.lay(-1, 0, 0), BAD);
        Check.found(x, "lay on none", x.lay(0, -1, 0), NOTHING, 1);
        x.sheet(0, 2);
        Check.due("lay", x.lay(0, 0, 127), 1000);
        Check.due("lay 128", x.lay(0, 0, 128), 1127);
        Check.due("128 is -128", x.lay(0, 0, -1), 872);
        Check.due("-1 is -1", x.lay(0, 0, 256 + 65), 999);
        Check.due("321 is 65", x.lay(0, 0, Integer.MIN_VALUE), 1065);
        Check.due("MIN is 0", x.lay(0, 0, 255), 1000);
        Check.due("255 is -1", x.lay(0, 0, 0), 999);
        Check.due("the other one stays", x.lay(0, 1, 0), 1000);
        Check.found(x, "lay(0, 2)", x.lay(0, 2, 0), BEYOND, 1);
        Check.found(x, "lay(0, -1)", x.lay(0, -1, 0), BEYOND, 2);
    }

    private static void tears() {
        CriersOffice x = new CriersOffice();
        Check.due("tear bad", x.tear(4), BAD);
        Check.due("tear bad", x.tear(-1), BAD);
        Check.found(x, "tear none", x.tear(3), NOTHING, 1);
        x.sheet(3, 0);
        Check.due("tear", x.tear(3), 1);
        Check.found(x, "tear twice", x.tear(3), NOTHING, 2);
        Check.found(x, "lay behind", x.lay(3, 0, 0), NOTHING, 3);
    }

    private static void copies() {
        CriersOffice x = new CriersOffice();
        Check.write(x, 0, "abcdef");
        Check.write(x, 1, "......");
        Check.due("copy", x.copy(0, 1, 1, 3, 3), 1);
        reads(x, 1, "...bcd");
        reads(x, 0, "abcdef");
        Check.due("copy onto itself, up", x.copy(0, 0, 0, 2, 4), 1);
        reads(x, 0, "ababcd");
        Check.due("copy onto itself, down", x.copy(0, 2, 0, 0, 4), 1);
        reads(x, 0, "abcdcd");
        Check.due("copy none at the end", x.copy(0, 6, 1, 6, 0), 1);
        Check.due("copy all", x.copy(0, 0, 1, 0, 6), 1);
        reads(x, 1, "abcdcd");
    }

    private static void copiesRefused() {
        CriersOffice x = new CriersOffice();
        Check.due("copy bad", x.copy(4, 0, 0, 0, -1), BAD);
        Check.due("copy bad", x.copy(0, 0, -1, 0, -1), BAD);
        Check.found(x, "copy -1 of none", x.copy(0, 0, 1, 0, -1), SIZE, 1);
        x.sheet(1, 4);
        Check.found(x, "copy from none", x.copy(0, 9, 1, 9, 0), NOTHING, 1);
        Check.found(x, "copy to none", x.copy(1, 9, 0, 9, 0), NOTHING, 2);
        x.sheet(0, 6);
        int max = Integer.MAX_VALUE;
        int[][] beyond = {{-1, 0, 1}, {0, -1, 1}, {6, 0, 1}, {0, 4, 1}, {3, 0, 4}, {0, 1, 4}, {0, 0, 5}, {7, 0, 0},
            {0, 5, 0}, {max, 0, 1}, {0, max, 1}, {0, 0, max}, {max, max, max}, {1, 1, max}, {Integer.MIN_VALUE, 0, 0}};
        int often = 0;
        for (int[] b : beyond) {
            often++;
            Check.found(x, "copy beyond", x.copy(0, b[0], 1, b[1], b[2]), BEYOND, often);
        }
    }

    /** Reads by laying the same signs again. */
    private static void reads(CriersOffice x, int s, String text) {
        for (int i = 0; i < text.length(); i++) {
            Check.due("sign " + i + " of " + text, x.lay(s, i, text.charAt(i)), 1000 + text.charAt(i));
        }
    }

    private static void words() {
        counts("", 0);
        counts(" .,-:;/@[`{", 0);
        counts("a", 1);
        counts("Z9", 1);
        counts("a b", 2);
        counts(" ab,cd.", 2);
        counts("1", 1);
        counts("123", 1);
        counts("1234", 2);
        counts("123456", 2);
        counts("1234567", 3);
        counts("1abc", 2);
        counts("abc1234567890", 1);
        counts("12 34", 2);
        counts("don't", 2);
        counts("a z A Z 0 9", 6);
        counts("/ : @ [ ` {", 0);
        counts("\u00e4b\u00ff", 1);
        counts("aB3dE6gH9jK2mN5pQ8sT1vW4yZ", 1);
        counts("0".repeat(80), 27);
        counts("a ".repeat(40), 40);
        counts("a9".repeat(40), 1);
        CriersOffice x = new CriersOffice();
        Check.due("words bad", x.words(4), BAD);
        Check.due("words bad", x.words(-1), BAD);
        Check.found(x, "words of none", x.words(0), NOTHING, 1);
        x.sheet(0, 80);
        Check.due("words of signs 0", x.words(0), 0);
    }

    private static void counts(String text, int words) {
        CriersOffice x = new CriersOffice();
        Check.write(x, 2, text);
        Check.due("words of '" + text + "'", x.words(2), words);
    }

    private static void bars() {
        CriersOffice x = new CriersOffice();
        Check.due("bar bad", x.bar(4), BAD);
        Check.due("barred bad", x.barred(-1), BAD);
        Check.found(x, "bar none", x.bar(0), NOTHING, 1);
        Check.found(x, "barred none", x.barred(0), NOTHING, 2);
        Check.write(x, 0, "Ale, beer 12b");
        Check.due("barred ahead of bar", x.barred(0), NONE);
        Check.due("bar", x.bar(0), 3);
        Check.due("count(6)", x.count(6), 3);
        Check.write(x, 1, "pale ales 12 b ALE beer");
        Check.due("barred", x.barred(1), 15);
        Check.write(x, 1, "x 12B");
        Check.due("barred with a figure", x.barred(1), 2);
        x.tear(0);
        Check.due("barred stays when the sheet is torn", x.barred(1), 2);
        Check.write(x, 2, "...");
        Check.due("bar nothing", x.bar(2), 0);
        Check.due("count(6)", x.count(6), 0);
        Check.due("none is barred then", x.barred(1), NONE);
    }

    private static void barsManyAndLong() {
        CriersOffice x = new CriersOffice();
        Check.write(x, 0, "abcdefghijklm abcdefghijkl a b c d e f g h i j k l m n o p q");
        Check.due("bar of 18 short ones", x.bar(0), 16);
        Check.write(x, 1, "abcdefghijklm p q");
        Check.due("13 signs, the 17th, the 18th", x.barred(1), NONE);
        Check.write(x, 1, "q p o");
        Check.due("the 16th", x.barred(1), 4);
        Check.write(x, 1, " abcdefghijkL");
        Check.due("12 signs", x.barred(1), 1);
        Check.write(x, 1, "abcdefghijk");
        Check.due("a part of one", x.barred(1), NONE);
        Check.write(x, 0, "." + "az".repeat(6) + ".".repeat(55) + "AZ".repeat(6));
        Check.due("bar of a sheet as long as can be", x.bar(0), 2);
        Check.write(x, 1, "[z]".repeat(22) + ".." + "Az".repeat(6));
        Check.due("at the end of a sheet as long as can be", x.barred(1), 68);
        Check.write(x, 0, "AZ az");
        Check.due("bar of alike ones", x.bar(0), 2);
        Check.write(x, 1, "a z zA aZ");
        Check.due("great letters from the first to the last", x.barred(1), 7);
    }
}
