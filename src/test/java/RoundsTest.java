import java.util.Random;

/** Promises 32 and 33: round, roundAt; against all orders of the SQUARES, tried one by one. */
public final class RoundsTest {
    private static final int BAD = CriersOffice.BAD, NONE = CriersOffice.NONE;

    private static int[] best;
    private static int bestWalk;

    public static void main(String[] args) {
        edges();
        moreSquaresLater();
        alike();
        Random random = new Random(1);
        for (int i = 0; i < 300; i++) {
            tryAll(random, 1 + random.nextInt(7), i % 2 == 0 ? 61 : 4);
        }
        tryAll(random, 9, 61);
        tryAll(random, 9, 3);
        tryAll(random, 10, 61);
        Check.end();
    }

    private static void edges() {
        CriersOffice x = Check.withSquares(0, 0, 7, 0);
        Check.due("round of no crier", x.round(0, 0), BAD);
        x.crier(0);
        Check.due("round", x.round(0, 3), 7);
        Check.due("round bad", x.round(-1, 3), BAD);
        Check.due("round bad", x.round(1, 3), BAD);
        Check.due("round bad", x.round(0, 4), BAD);
        Check.due("round bad", x.round(0, -1), BAD);
        Check.due("round bad", x.round(0, Integer.MIN_VALUE), BAD);
        Check.due("a bad one is not the latest", x.roundAt(1), 1);
        Check.due("roundAt none", x.roundAt(2), NONE);
        Check.due("roundAt none", x.roundAt(-1), NONE);
        Check.due("roundAt none", x.roundAt(Integer.MAX_VALUE), NONE);
        Check.due("its own square alone", x.round(0, 1), 0);
        Check.due("roundAt", x.roundAt(0), 0);
        Check.due("roundAt none", x.roundAt(1), NONE);
        Check.due("round over none", x.round(0, 0), 0);
        Check.due("roundAt none", x.roundAt(0), NONE);
    }

    private static void moreSquaresLater() {
        CriersOffice x = Check.withSquares(0, 0, 7, 0);
        x.crier(0);
        Check.due("round", x.round(0, 2), 7);
        x.square(3, 0, 0);
        Check.due("what was found stays", x.roundAt(0), 1);
        Check.due("round over more", x.round(0, 6), 7);
        Check.due("roundAt", x.roundAt(0), 2);
        Check.write(x, 0, "a");
        x.notice(0, 0, 2, 1, 0);
        x.cry(0, 0, 1, 7);
        Check.due("what was found stays", x.roundAt(0), 2);
        Check.due("from where it is now", x.round(0, 6), 4);
        Check.due("roundAt", x.roundAt(0), 1);
    }

    private static void alike() {
        CriersOffice x = Check.withSquares(10, 10, 20, 10, 0, 10, 10, 10);
        x.crier(3);
        Check.due("round", x.round(0, 15), 30);
        int[] due = {0, 1, 3, 2};
        for (int i = 0; i < due.length; i++) {
            Check.due("roundAt", x.roundAt(i), due[i]);
        }
    }

    private static void tryAll(Random random, int many, int width) {
        int[][] at = new int[many][2];
        CriersOffice x = new CriersOffice();
        for (int s = 0; s < many; s++) {
            at[s][0] = random.nextInt(width);
            at[s][1] = random.nextInt(width);
            x.square(at[s][0], at[s][1], 0);
        }
        int start = random.nextInt(many);
        int bits = many >= 9 ? (1 << many) - 1 : random.nextInt(1 << many);
        x.crier(start);
        best = new int[0];
        bestWalk = Integer.MAX_VALUE;
        extend(at, start, bits, new int[Integer.bitCount(bits)], 0, 0);
        Check.due("round", x.round(0, bits), bestWalk);
        for (int i = 0; i < best.length; i++) {
            Check.due("roundAt", x.roundAt(i), best[i]);
        }
        Check.due("roundAt behind", x.roundAt(best.length), NONE);
    }

    private static void extend(int[][] at, int from, int left, int[] order, int place, int walked) {
        if (walked >= bestWalk) {
            return;
        }
        if (left == 0) {
            best = order.clone();
            bestWalk = walked;
            return;
        }
        for (int s = 0; s < at.length; s++) {
            if ((left >> s & 1) == 1) {
                order[place] = s;
                int walk = Math.abs(at[from][0] - at[s][0]) + Math.abs(at[from][1] - at[s][1]);
                extend(at, s, left & ~(1 << s), order, place + 1, walked + walk);
            }
        }
    }
}
