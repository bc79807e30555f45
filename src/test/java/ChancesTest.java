/** Promises 23 to 27: share, rests, skipped, seed, years. */
public final class ChancesTest {
    private static final Check CHECK = new Check();

    public static void main(String[] args) {
        shares();
        sharesOfFour();
        restsOfTwo();
        restsRefused();
        skips();
        skipsToTheEdge();
        skipsRefused();
        seeds();
        years();
        yearsOneByOne();
        CHECK.end();
    }

    private static void share(BroadNib nib, int pen, int above, int below) {
        CHECK.due("share(" + pen + ", true)", nib.share(pen, true), above);
        CHECK.due("share(" + pen + ", false)", nib.share(pen, false), below);
    }

    private static void shares() {
        // Two ruling pens of 2 each side by side come to one dot: only both make it black, half each.
        BroadNib nib = Check.desk("NP113009P113009");
        share(nib, 0, 0, 1);
        nib.word(1, 0);
        share(nib, 0, 1, 2);
        share(nib, 1, 1, 2);
        CHECK.due("share(2, true)", nib.share(2, true), BroadNib.UNKNOWN);
        CHECK.due("share(-1, false)", nib.share(-1, false), BroadNib.UNKNOWN);
        CHECK.due("nothing changed", nib.count(2) + nib.count(3), 0);
        nib.put(1);
        share(nib, 0, 0, 1);
        // One alone on a stain of 1.
        nib = Check.desk("NP113009S211");
        nib.word(3, 4);
        share(nib, 0, 1, 1);
        nib.word(3, 0);
        share(nib, 0, 1, 1);
        // A dot that is black is not black once more.
        nib = Check.desk("NP113009S213");
        nib.word(1, 0);
        share(nib, 0, 0, 1);
        // Dots of their own.
        nib = Check.desk("NP112009P122009");
        nib.word(1, 0);
        share(nib, 0, 1, 1);
        share(nib, 1, 1, 1);
        // It writes till it can not go on.
        nib = Check.desk("NP312009");
        nib.word(4, 20);
        share(nib, 0, 1, 1);
    }

    private static void sharesOfFour() {
        // 3, 1, 1 and none by a lifted one: the first alone, or not at all without it but for three.
        BroadNib nib = Check.desk("NP000061P002441P002441P000061");
        nib.put(3);
        nib.word(1, 1);
        // Nib (-3, 3) lays 5 along 1 of 5; a brush of (1, 1) lays 1.
        share(nib, 0, 1, 1);
        share(nib, 1, 0, 1);
        share(nib, 3, 0, 1);
        // 2, 1, 1: black by the first and one more.
        nib = Check.desk("NP003061P002441P002441");
        nib.word(1, 1);
        share(nib, 0, 2, 3);
        share(nib, 1, 1, 6);
        share(nib, 2, 1, 6);
        // 1 each: three of four.
        nib = Check.desk("NP002441P002441P002441P002441");
        nib.word(1, 1);
        for (int pen = 0; pen < 4; pen++) {
            share(nib, pen, 1, 4);
        }
    }

    private static void rests(BroadNib nib, int one, int other, int many, int first) {
        CHECK.due("rests(" + one + ", " + other + ", 0)", nib.rests(one, other, 0), many);
        CHECK.due("rests(" + one + ", " + other + ", 1)", nib.rests(one, other, 1), first);
    }

    /** One pair at least is at rest: what one gains by another choice, ink of both and black dots gain together. */
    private static void restsOfTwo() {
        // The empty word: all is one.
        BroadNib nib = Check.desk("NP113009P113009");
        rests(nib, 0, 1, 4, 0);
        // 2 ink each for a black dot by both only: 2 away, 2 more: no loss for the second one who does.
        nib.word(1, 0);
        rests(nib, 0, 1, 2, 0);
        // A stain of 1: one alone makes it black for 2 ink, that is worth 2: nobody gains, but both lose.
        nib = Check.desk("NP113009P113009S211");
        nib.word(1, 0);
        rests(nib, 0, 1, 3, 0);
        // A stain of 2: 1 ink for 2 more: one of them does.
        nib = Check.desk("NP112449P112449S222");
        nib.word(1, 1);
        rests(nib, 0, 1, 2, 1);
        // Only the first one can: 10, whoever is asked first.
        nib = Check.desk("NP112449P442449S222");
        nib.word(1, 1);
        rests(nib, 0, 1, 2, 10);
        rests(nib, 1, 0, 2, 1);
        // Dots of their own: each does.
        nib = Check.desk("NP112449P222449S222S332");
        nib.word(1, 1);
        rests(nib, 0, 1, 1, 11);
        CHECK.due("nothing changed", nib.count(2) + nib.count(8), 0);
    }

    private static void restsRefused() {
        BroadNib nib = Check.desk("NP113009P113009");
        CHECK.due("rests(0, 2, 9)", nib.rests(0, 2, 9), BroadNib.UNKNOWN);
        CHECK.due("rests(2, 0, 0)", nib.rests(2, 0, 0), BroadNib.UNKNOWN);
        CHECK.due("rests(-1, -1, 0)", nib.rests(-1, -1, 0), BroadNib.UNKNOWN);
        CHECK.due("rests(1, 1, 0)", nib.rests(1, 1, 0), BroadNib.OUTSIDE);
        CHECK.due("rests(0, 1, 2)", nib.rests(0, 1, 2), BroadNib.OUTSIDE);
        CHECK.due("rests(0, 1, -1)", nib.rests(0, 1, -1), BroadNib.OUTSIDE);
    }

    private static void chance(BroadNib nib, int v, int x, int above, int below) {
        CHECK.due("skipped(0, " + v + ", " + x + ", true)", nib.skipped(0, v, x, true), above);
        CHECK.due("skipped(0, " + v + ", " + x + ", false)", nib.skipped(0, v, x, false), below);
    }

    private static void skips() {
        // A ruling pen of nib (0, 3): 2 along 0, 1 along 2.
        BroadNib nib = Check.desk("NP003369");
        chance(nib, 0, 5, 1, 1);
        chance(nib, 1, 5, 0, 1);
        nib.word(2, 2);
        chance(nib, 0, 3, 1, 1);
        chance(nib, 1, 3, 91, 100);
        chance(nib, 2, 3, 7, 10);
        chance(nib, 3, 3, 49, 100);
        chance(nib, 4, 3, 0, 1);
        chance(nib, 1, 1, 99, 100);
        chance(nib, 1, 9, 19, 100);
        chance(nib, 99, 3, 0, 1);
        chance(nib, 3, 0, 1, 1);
        chance(nib, 1, 10, 0, 1);
        chance(nib, 0, 10, 1, 1);
        nib.word(8, 2020202);
        chance(nib, 8, 9, 14657, 50000000);
        chance(nib, 12, 9, 1, 100000000);
        chance(nib, 1, 9, 56953279, 100000000);
        nib.put(0);
        chance(nib, 1, 0, 0, 1);
        chance(nib, 0, 0, 1, 1);
    }

    private static void skipsToTheEdge() {
        // From x = 3 a second step along 0 is off the sheet: it ends there, the step up is not done.
        BroadNib nib = Check.desk("NP303369");
        nib.word(3, 2);
        chance(nib, 3, 5, 1, 4);
        chance(nib, 2, 5, 3, 4);
        chance(nib, 1, 5, 7, 8);
        chance(nib, 3, 0, 0, 1);
        // No more ink than it has: 5 of 2, 2, 2.
        nib = Check.desk("NP003361");
        nib.word(3, 0);
        chance(nib, 5, 5, 1, 8);
        chance(nib, 6, 5, 0, 1);
    }

    private static void skipsRefused() {
        BroadNib nib = Check.desk("NP003369");
        CHECK.due("skipped(1, -1, 11, true)", nib.skipped(1, -1, 11, true), BroadNib.UNKNOWN);
        CHECK.due("skipped(0, -1, 0, true)", nib.skipped(0, -1, 0, true), BroadNib.OUTSIDE);
        CHECK.due("skipped(0, 100, 0, false)", nib.skipped(0, 100, 0, false), BroadNib.OUTSIDE);
        CHECK.due("skipped(0, 0, 11, false)", nib.skipped(0, 0, 11, false), BroadNib.OUTSIDE);
        CHECK.due("skipped(0, 0, -1, true)", nib.skipped(0, 0, -1, true), BroadNib.OUTSIDE);
    }

    private static void seeds() {
        BroadNib nib = new BroadNib();
        CHECK.due("seed(MAX)", nib.seed(Long.MAX_VALUE), 0);
        CHECK.due("seed(MIN)", nib.seed(Long.MIN_VALUE), Long.MAX_VALUE);
        CHECK.due("seed(0)", nib.seed(0), Long.MIN_VALUE);
        nib.years(1);
        CHECK.due("one year", nib.seed(0), 1442695040888963407L);
        nib.years(2);
        CHECK.due("two years", nib.seed(0), 1442695040888963407L * 6364136223846793005L + 1442695040888963407L);
        CHECK.due("years(0)", nib.years(0), BroadNib.OUTSIDE);
        CHECK.due("years(31)", nib.years(31), BroadNib.OUTSIDE);
        CHECK.due("refused: the seed stays", nib.seed(0), 0);
    }

    /** The seed from which years come to these kinds, one by one, found by going on from 0. */
    private static long seedFor(int... kinds) {
        for (long seed = 0; seed < 10000000; seed++) {
            long next = seed;
            int fits = 0;
            while (fits < kinds.length) {
                next = next * 6364136223846793005L + 1442695040888963407L;
                if ((next >>> 33) % 48 != kinds[fits]) {
                    break;
                }
                fits++;
            }
            if (fits == kinds.length) {
                return seed;
            }
        }
        throw new IllegalStateException("no seed");
    }

    private static void year(BroadNib nib, int kind, int due) {
        nib.seed(seedFor(kind));
        CHECK.due("a year of kind " + kind, nib.years(1), due);
    }

    private static void years() {
        BroadNib nib = Check.desk("NP002439P402439S005S114S223S332");
        int stains = 14;
        // Pen 0 goes from the corner 0: to 0, 1 and 2 alone; pen 1 from the corner 4: to 2, 3, 4.
        int[] laid = {1, 2, 2, 0, 0, 0, 0, 0, 0, 0, 2, 2, 1, 0, 0, 0};
        for (int kind = 0; kind < 48; kind++) {
            int due = kind < laid.length ? stains + laid[kind] : stains;
            if (kind >= 44) {
                due = stains - (5 - (kind - 44));
            }
            year(nib, kind, due);
        }
        CHECK.due("nothing changed", nib.count(3) * 10000 + nib.count(2) * 100 + nib.count(8), 140000);
        nib.seed(12345);
        int all = nib.years(30);
        nib.seed(12345);
        CHECK.due("the same again", nib.years(30), all);
        CHECK.due("a desk without pens", new BroadNib().years(30), 0);
        nib.step(0, 0);
        nib.blot(1);
        nib.seed(seedFor(45));
        CHECK.due("a dot with ink", nib.years(1), stains - 4);
        nib.blot(6);
        nib.seed(seedFor(45));
        CHECK.due("a clean dot", nib.years(1), stains - 4);
    }

    private static void yearsOf(BroadNib nib, int due, int... kinds) {
        nib.seed(seedFor(kinds));
        CHECK.due("years of " + java.util.Arrays.toString(kinds), nib.years(kinds.length), due);
    }

    private static void yearsOneByOne() {
        // Brushes of nib (1, 0): 1 along 0 and 4, 2 when turned; of 5 ink and of 45.
        BroadNib nib = Check.desk("NP002431P402439");
        yearsOf(nib, 1 + 3, 0, 2);
        yearsOf(nib, 0 + 2, 32, 0);
        yearsOf(nib, 0 + 1, 33, 0);
        yearsOf(nib, 0 + 2, 33, 12);
        yearsOf(nib, 0 + 1, 34, 0);
        yearsOf(nib, 0 + 0, 36, 0);
        yearsOf(nib, 0 + 1, 36, 12);
        yearsOf(nib, 0 + 0, 37, 12);
        yearsOf(nib, 1 + 1 + 1, 0, 46, 45);
        yearsOf(nib, 2 + 0, 1, 45);
        for (int i = 0; i < 5; i++) {
            nib.step(0, i % 2 == 0 ? 0 : 4);
        }
        CHECK.due("no ink left", nib.pen(0, 3), 0);
        yearsOf(nib, 5 + 5, 4, 0);
        yearsOf(nib, 5 + 6, 40, 4);
        yearsOf(nib, 5 + 5, 41, 4);
    }
}
