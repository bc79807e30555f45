import java.math.BigInteger;

/** "==== 3", sentence by sentence: each boundary that it names, at the value itself and at its neighbours. */
public final class ChanceEdgesTest {
    private static final Check CHECK = new Check();
    private static final int STATE = BroadNib.STATE, NONE = BroadNib.NONE;
    private static final int[] MORE_IN_X = {1, 1, 0, -1, -1, -1, 0, 1};
    private static final int[] MORE_IN_Y = {0, 1, 1, 1, 0, -1, -1, -1};
    private static final long TIMES = 6364136223846793005L, MORE = 1442695040888963407L;

    public static void main(String[] args) {
        nibsByOneSeen();
        nibsBySeveralSeen();
        noNib();
        seenIsOfItsOwn();
        shareByBlack();
        shareOfOneToFour();
        shareOfManyDots();
        restsByWhatInkIsWorth();
        restsOfBoth();
        skippedByTenths();
        skippedByInk();
        skippedAtTheEdge();
        skippedByEight();
        seedsWrap();
        yearsByUpperBits();
        yearsByKind();
        yearsThatCanNotBe();
        yearsTogether();
        turnedPutDippedInYears();
        slotsKeep();
        slotsAreTwo();
        CHECK.end();
    }

    private static int thick(int a, int b, int direction) {
        return Math.abs(MORE_IN_X[direction] * b - MORE_IN_Y[direction] * a);
    }

    /** How many nibs are as seen, and the first, by 100 times how many and the first; 0 and NONE likewise. */
    private static int nibsBy(int[] directions, int[] thicks) {
        int many = 0;
        int first = NONE;
        for (int told = 66; told >= 0; told--) {
            int a = told / 10 - 3;
            int b = told % 10 - 3;
            boolean fits = b <= 3 && (a != 0 || b != 0);
            for (int i = 0; i < directions.length && fits; i++) {
                fits = thick(a, b, directions[i]) == thicks[i];
            }
            if (fits) {
                many++;
                first = told;
            }
        }
        return 100 * many + first;
    }

    /** "SEEN: that an unknown PLAIN PEN was THICK by t (0 to 6) in a DIRECTION"; "how many (48 there are); the first". */
    private static void nibsByOneSeen() {
        BroadNib nib = new BroadNib();
        CHECK.due("all", nib.nibs(0), 48);
        CHECK.due("the first of all", nib.nibs(1), 0);
        for (int direction = 0; direction < 8; direction++) {
            for (int t = 0; t <= 6; t++) {
                nib.unsee();
                nib.see(direction, t);
                String told = "nibs by " + t + " along " + direction;
                CHECK.due(told, 100 * nib.nibs(0) + nib.nibs(1), nibsBy(new int[] {direction}, new int[] {t}));
            }
        }
        nib.unsee();
        nib.see(3, 6);
        CHECK.due("6 is of two nibs", nib.nibs(0), 2);
        CHECK.due("the first of them", nib.nibs(1), 0);
        nib.unsee();
        nib.see(1, 6);
        CHECK.due("6 the other way", nib.nibs(1), 6);
    }

    /** "6 such at most": each of the six counts, the last too. */
    private static void nibsBySeveralSeen() {
        int[] directions = {0, 0, 0, 0, 0, 2};
        int[] thicks = {1, 1, 1, 1, 1, 2};
        BroadNib nib = new BroadNib();
        for (int i = 0; i < 5; i++) {
            nib.see(directions[i], thicks[i]);
            CHECK.due("by b alone", nib.nibs(0), 14);
        }
        nib.see(directions[5], thicks[5]);
        CHECK.due("the sixth counts", nib.nibs(0), 4);
        CHECK.due("the first then", nib.nibs(1), 12);
        CHECK.due("as it is found here", 412, nibsBy(directions, thicks));
        nib.see(3, 0);
        CHECK.due("a seventh does not", nib.nibs(0), 4);
        // The first one counts too.
        nib = new BroadNib();
        nib.see(2, 2);
        for (int i = 0; i < 5; i++) {
            nib.see(0, 1);
        }
        CHECK.due("the first of six counts", nib.nibs(0), 4);
    }

    /** "NIBS: by which all that is SEEN is so ... NONE." */
    private static void noNib() {
        BroadNib nib = new BroadNib();
        nib.see(0, 0);
        CHECK.due("along 0", 100 * nib.nibs(0) + nib.nibs(1), 603);
        nib.see(2, 0);
        CHECK.due("a nib of no breadth is none", nib.nibs(0), 0);
        CHECK.due("no first", nib.nibs(1), NONE);
        nib.unsee();
        nib.see(0, 3);
        CHECK.due("3 along 0", nib.nibs(0), 14);
        nib.unsee();
        nib.see(0, 4);
        CHECK.due("4 along 0", nib.nibs(0), 0);
        CHECK.due("4 along 0, no first", nib.nibs(1), NONE);
        nib.unsee();
        nib.see(1, 2);
        nib.see(5, 2);
        CHECK.due("there and back alike", nib.nibs(0) > 0);
        nib.see(5, 3);
        CHECK.due("there and back not alike", nib.nibs(0), 0);
    }

    private static void seenIsOfItsOwn() {
        BroadNib nib = Check.desk("NP002009");
        CHECK.due("none at first", nib.count(9), 0);
        nib.step(0, 0);
        nib.thick(0, 0);
        CHECK.due("steps are not seen", nib.count(9) * 100 + nib.nibs(0), 48);
        nib.see(0, 3);
        nib.keep(0);
        nib.see(2, 1);
        nib.again(0);
        nib.undo();
        nib.desk();
        CHECK.due("it stays by all else", nib.count(9), 2);
        CHECK.due("no act", nib.count(8), 0);
    }

    private static void share(String told, BroadNib nib, int pen, int above, int below) {
        CHECK.due("share, " + told + ", above", nib.share(pen, true), above);
        CHECK.due("share, " + told + ", below", nib.share(pen, false), below);
    }

    private static BroadNib withWord(String text, int n, long row) {
        BroadNib nib = Check.desk(text);
        nib.word(n, row);
        return nib;
    }

    /** "by how many in the mean DOTS that are BLACK are more when it has done so than they were". */
    private static void shareByBlack() {
        int[] due = {0, 1, 1, 0, 0};
        for (int stain = 0; stain <= 4; stain++) {
            // A ruling pen lays 2 on it.
            share("2 on " + stain, withWord("NP113009S21" + stain, 1, 0), 0, due[stain], 1);
        }
        share("no word", withWord("NP113009S212", 0, 0), 0, 0, 1);
        share("a word that stops at once", withWord("NP413009S412", 2, 4), 0, 0, 1);
        share("a word that stops behind one", withWord("NP313009S412", 3, 4), 0, 1, 1);
        BroadNib lifted = withWord("NP113009S212", 1, 0);
        lifted.put(0);
        share("lifted", lifted, 0, 0, 1);
        share("no ink", withWord("NP113000S212", 1, 0), 0, 0, 1);
    }

    /** "if PENS come one by one, in each order as likely": a FRACTION "in least terms". */
    private static void shareOfOneToFour() {
        String two = "P003061";
        String one = "P002441";
        share("one", withWord("N" + two + "S111", 1, 1), 0, 1, 1);
        BroadNib nib = withWord("N" + two + one, 1, 1);
        share("2 of 2, 1", nib, 0, 1, 2);
        share("1 of 2, 1", nib, 1, 1, 2);
        nib = withWord("N" + one + one + one, 1, 1);
        for (int pen = 0; pen < 3; pen++) {
            share("1 of 1, 1, 1", nib, pen, 1, 3);
        }
        nib = withWord("N" + one + two + one, 1, 1);
        share("2 of 1, 2, 1", nib, 1, 2, 3);
        share("1 of 1, 2, 1", nib, 0, 1, 6);
        share("the last 1 of 1, 2, 1", nib, 2, 1, 6);
        nib = withWord("N" + one + one + one + two, 1, 1);
        share("2 of 1, 1, 1, 2", nib, 3, 1, 2);
        for (int pen = 0; pen < 3; pen++) {
            share("1 of 1, 1, 1, 2", nib, pen, 1, 6);
        }
        nib = withWord("N" + two + two + one + one, 1, 1);
        share("2 of 2, 2, 1, 1", nib, 0, 1, 3);
        share("1 of 2, 2, 1, 1", nib, 3, 1, 6);
        nib = withWord("N" + one + one + one + one + "S110", 1, 1);
        share("1 of 1, 1, 1, 1", nib, 3, 1, 4);
        nib = withWord("N" + one + one + one + one + "S111", 1, 1);
        share("1 of 1, 1, 1, 1 on 1", nib, 0, 1, 4);
    }

    private static void shareOfManyDots() {
        share("three dots alone", withWord("NP002009", 3, 0), 0, 3, 1);
        BroadNib nib = withWord("NP003009P003009", 3, 0);
        share("three dots by two", nib, 0, 3, 2);
        share("three dots by two, the other", nib, 1, 3, 2);
        // Each comes once: dots further on are not reached by a second time.
        nib = withWord("NP002009P012009P022009P032009", 1, 0);
        for (int pen = 0; pen < 4; pen++) {
            share("a dot of its own", nib, pen, 1, 1);
        }
    }

    private static void rests(String told, BroadNib nib, int one, int other, int many, int first) {
        CHECK.due("rests, " + told, nib.rests(one, other, 0), many);
        CHECK.due("rests, " + told + ", the first", nib.rests(one, other, 1), first);
    }

    /** "pairs in which neither has more by another choice alone": what is black is worth 2, for 1, 2 or 3 ink. */
    private static void restsByWhatInkIsWorth() {
        // The other can not go that way, so that both its choices are one.
        String other = "P440639";
        BroadNib nib = withWord("NP002449" + other + "S112", 1, 1);
        rests("for 1", nib, 0, 1, 2, 10);
        rests("for 1, asked the other way", nib, 1, 0, 2, 1);
        nib = withWord("NP002439" + other + "S111", 1, 1);
        rests("for 2", nib, 0, 1, 4, 0);
        rests("for 2, asked the other way", nib, 1, 0, 4, 0);
        nib = withWord("NP000639" + other, 1, 1);
        rests("for 3", nib, 0, 1, 2, 0);
        rests("for 3, asked the other way", nib, 1, 0, 2, 0);
        // The same for what was black before, or does not become so.
        rests("black before", withWord("NP002449" + other + "S113", 1, 1), 0, 1, 2, 0);
        rests("black not even then", withWord("NP002449" + other + "S111", 1, 1), 0, 1, 2, 0);
        rests("no word", withWord("NP002449" + other + "S112", 0, 0), 0, 1, 4, 0);
    }

    private static void restsOfBoth() {
        String gains = "P002449";
        String loses = "P220639";
        BroadNib nib = withWord("N" + gains + loses + "P112449S112S222", 1, 1);
        // Pens 0 and 2 gain 1 each, pen 1 loses 3 or 1.
        rests("both gain", nib, 0, 2, 1, 11);
        rests("one gains", nib, 0, 1, 1, 10);
        rests("the other gains", nib, 1, 0, 1, 1);
        rests("both lose", withWord("N" + loses + "P110639", 1, 1), 0, 1, 1, 0);
        // For one dot: one of them alone.
        rests("one of two", withWord("N" + gains + gains + "S112", 1, 1), 0, 1, 2, 1);
        rests("of four, two", withWord("N" + gains + loses + gains + loses + "S112", 1, 1), 3, 1, 1, 0);
    }

    private static void skipped(String told, BroadNib nib, int v, int x, int above, int below) {
        CHECK.due("skipped, " + told + ", above", nib.skipped(0, v, x, true), above);
        CHECK.due("skipped, " + told + ", below", nib.skipped(0, v, x, false), below);
    }

    /** "SKIPPED by x tenths (0 to 10), by itself". */
    private static void skippedByTenths() {
        int[] above = {1, 9, 4, 7, 3, 1, 2, 3, 1, 1, 0};
        int[] below = {1, 10, 5, 10, 5, 2, 5, 10, 5, 10, 1};
        BroadNib nib = withWord("NP223009", 1, 0);
        for (int x = 0; x <= 10; x++) {
            skipped("0 by " + x, nib, 0, x, 1, 1);
            skipped("1 by " + x, nib, 1, x, above[x], below[x]);
            skipped("2 by " + x, nib, 2, x, above[x], below[x]);
            skipped("3 by " + x, nib, 3, x, 0, 1);
        }
        // One of two is enough: all but both skipped.
        nib.word(2, 4);
        int[] aboveOfTwo = {1, 99, 24, 91, 21, 3, 16, 51, 9, 19, 0};
        int[] belowOfTwo = {1, 100, 25, 100, 25, 4, 25, 100, 25, 100, 1};
        for (int x = 0; x <= 10; x++) {
            skipped("2 of two by " + x, nib, 2, x, aboveOfTwo[x], belowOfTwo[x]);
        }
        nib.word(0, 0);
        for (int x = 0; x <= 10; x++) {
            skipped("no word, 0 by " + x, nib, 0, x, 1, 1);
            skipped("no word, 1 by " + x, nib, 1, x, 0, 1);
        }
    }

    /** "lays v (0 to 99) INK or more". */
    private static void skippedByInk() {
        // 7 each step, of 45: 7, 14, .. 42, 45, 45.
        BroadNib nib = withWord("NP222669", 8, 37373737);
        skipped("44", nib, 44, 0, 1, 1);
        skipped("45", nib, 45, 0, 1, 1);
        skipped("46", nib, 46, 0, 0, 1);
        skipped("98", nib, 98, 0, 0, 1);
        skipped("99", nib, 99, 0, 0, 1);
        skipped("none left, 0", withWord("NP222660", 2, 37), 0, 0, 1, 1);
        skipped("none left, 1", withWord("NP222660", 2, 37), 1, 0, 0, 1);
        nib.put(0);
        skipped("lifted, 0", nib, 0, 0, 1, 1);
        skipped("lifted, 1", nib, 1, 0, 0, 1);
        // 3 and 2 of 5.
        nib = withWord("NP220631", 2, 26);
        skipped("3 of both or one", nib, 3, 5, 3, 4);
        skipped("4 of both", nib, 4, 5, 1, 4);
        skipped("5 of both", nib, 5, 5, 1, 4);
        skipped("6 of none", nib, 6, 5, 0, 1);
    }

    /** "it is not done at all, the next one comes"; "WRITES what is left of it as far as it goes". */
    private static void skippedAtTheEdge() {
        // The first can not be: only when it is skipped the second comes.
        BroadNib nib = withWord("NP423009", 2, 4);
        skipped("the first skipped, the second not", nib, 1, 3, 21, 100);
        skipped("the first not skipped", nib, 1, 0, 0, 1);
        skipped("both skipped", nib, 1, 10, 0, 1);
        // When the first is skipped, the second, its way back, is off the sheet.
        nib = withWord("NP023009", 2, 4);
        skipped("4 by both alone", nib, 4, 2, 16, 25);
        skipped("2 by the first", nib, 2, 2, 4, 5);
    }

    /** Below is up to ten to the power of how many there are, of 8 at most. */
    private static void skippedByEight() {
        int below = 1;
        for (int length = 0; length <= 8; length++) {
            long row = Long.parseLong("0" + "04040404".substring(0, length));
            BroadNib nib = withWord("NP123009", length, row);
            skipped("all of " + length, nib, 2 * length, 9, 1, below);
            skipped("more than all of " + length, nib, 2 * length + 1, 9, 0, 1);
            below *= 10;
        }
        // 2 there and 2 back.
        BroadNib nib = withWord("NP123009", 8, 4040404);
        CHECK.due("it goes on to its end", nib.pen(0, 6), NONE);
        skipped("all of 8", nib, 16, 9, 1, 100000000);
        skipped("all of 8, by 1", nib, 16, 1, 43046721, 100000000);
        skipped("all of 8, by 5", nib, 16, 5, 1, 256);
        skipped("one more than all", nib, 17, 0, 0, 1);
        skipped("none of 8", nib, 0, 9, 1, 1);
    }

    /** "x becomes x times 6364136223846793005 and 1442695040888963407 (64 bits, wrapping)"; "0 at first". */
    private static void seedsWrap() {
        BroadNib nib = new BroadNib();
        CHECK.due("0 at first", nib.seed(0), 0);
        long[] seeds = {0, 1, -1, 2, Integer.MAX_VALUE, 1L << 32, Long.MAX_VALUE, Long.MAX_VALUE - 1, Long.MIN_VALUE,
            Long.MIN_VALUE + 1};
        int[] years = {1, 2, 29, 30};
        for (long seed : seeds) {
            for (int m : years) {
                nib.seed(seed);
                nib.years(m);
                BigInteger due = BigInteger.valueOf(seed);
                for (int i = 0; i < m; i++) {
                    due = due.multiply(BigInteger.valueOf(TIMES)).add(BigInteger.valueOf(MORE));
                }
                CHECK.due("seed " + seed + " behind " + m, nib.seed(seed), due.longValue());
            }
            CHECK.due("it is v", nib.seed(5), seed);
            nib.years(0);
            nib.years(31);
            CHECK.due("refused years leave it", nib.seed(0), 5);
        }
    }

    /** The seed that becomes x in one year. */
    private static long seedBefore(long x) {
        BigInteger room = BigInteger.ONE.shiftLeft(64);
        BigInteger back = BigInteger.valueOf(TIMES).modInverse(room);
        return BigInteger.valueOf(x).subtract(BigInteger.valueOf(MORE)).multiply(back).mod(room).longValue();
    }

    /** "its upper 31 bits by 48, what is left". */
    private static void yearsByUpperBits() {
        // Pen 3 by 7 is kind 31, what is left of 2^31 - 1; pen 0 turned is 32; pen 0 by 0 is 0.
        BroadNib nib = Check.desk("NP222439P222439P222439P220039");
        long[] lower = {0, 1, (1L << 32) - 1, 1L << 32, (1L << 33) - 1};
        for (long low : lower) {
            nib.seed(seedBefore((1L << 31) - 1 << 33 | low));
            CHECK.due("31 bits of 1, " + low, nib.years(1), 3);
            nib.seed(seedBefore(low));
            CHECK.due("31 bits of 0, " + low, nib.years(1), 1);
            nib.seed(seedBefore(1L << 63 | low));
            CHECK.due("the first bit of 31, which is pen 2 by 0, " + low, nib.years(1), 1);
            nib.seed(seedBefore(48L << 33 | low));
            CHECK.due("48, " + low, nib.years(1), 1);
            nib.seed(seedBefore(47L << 33 | low));
            CHECK.due("47, " + low, nib.years(1), 0);
            nib.seed(seedBefore(50L << 33 | low));
            CHECK.due("50, " + low, nib.years(1), 2);
        }
    }

    private static int year(BroadNib nib, int kind) {
        nib.seed(seedBefore((long) kind << 33));
        return nib.years(1);
    }

    /** "0 to 31 that by 8 (cut) is a PEN ... 44 and more the DOT of 6 times that less 44 is BLOTTED". */
    private static void yearsByKind() {
        // In the middle, thick by 1 to 4 each its own way: nibs (1, 0), (0, 2), (3, 0), (3, 3), all brushes.
        BroadNib nib = Check.desk("NP222439P222359P222639P222669S001S114S339S422");
        int stains = 1 + 4 + 9 + 2;
        for (int kind = 0; kind < 48; kind++) {
            int due = stains;
            if (kind < 32) {
                due += nib.thick(kind / 8, kind % 8);
            } else if (kind == 44) {
                due -= 1;
            } else if (kind == 45) {
                due -= 4;
            } else if (kind == 47) {
                due -= 9;
            }
            CHECK.due("a year of kind " + kind, year(nib, kind), due);
        }
        nib = Check.desk("NS009S229S449S119");
        CHECK.due("dot 0", year(nib, 44), 27);
        CHECK.due("dot 6", year(nib, 45), 27);
        CHECK.due("dot 12", year(nib, 46), 27);
        CHECK.due("dot 18, which is clean", year(nib, 47), 36);
        CHECK.due("of 43 none is blotted", year(nib, 43), 36);
    }

    /** "each if it can be". */
    private static void yearsThatCanNotBe() {
        // Off the sheet from a corner, and pens that there are not.
        BroadNib nib = Check.desk("NP002439P442439");
        for (int kind = 0; kind < 44; kind++) {
            boolean goes = kind <= 2 || kind >= 12 && kind <= 14;
            CHECK.due("a year of kind " + kind + " at corners", year(nib, kind),
                goes ? nib.thick(kind / 8, kind % 8) : 0);
        }
        BroadNib empty = new BroadNib();
        for (int kind = 0; kind < 48; kind++) {
            CHECK.due("a year of kind " + kind + " without pens", year(empty, kind), 0);
        }
        CHECK.due("years without pens", empty.years(30), 0);
    }

    /** "m times (1 to 30) ... INK on all DOTS, each time, together." */
    private static void yearsTogether() {
        BroadNib nib = Check.desk("NS109S448");
        for (int m = 1; m <= 30; m++) {
            CHECK.due("years of " + m, nib.years(m), 17 * m);
        }
        nib = Check.desk("NP222439P112669P333009S005");
        nib.seed(4711);
        int thirty = nib.years(30);
        nib.seed(4711);
        int again = nib.years(30);
        CHECK.due("the same by the same seed", again, thirty);
        nib.seed(4711);
        nib.years(1);
        long next = nib.seed(0);
        CHECK.due("the seed goes on", next, 4711 * TIMES + MORE);
    }

    private static int twoYears(BroadNib nib, int first, int second) {
        // The bits below the upper ones are needed: kinds alone would go round in a few.
        for (long lower = 0; lower < 1L << 33; lower += 1234567) {
            long x = (long) first << 33 | lower;
            if (((x * TIMES + MORE) >>> 33) % 48 == second) {
                nib.seed(seedBefore(x));
                return nib.years(2);
            }
        }
        throw new IllegalStateException("no seed");
    }

    /** "32 to 35 ... is TURNED; 36 to 39 ... is PUT; 40 to 43 ... is DIPPED". */
    private static void turnedPutDippedInYears() {
        // Brushes of nib (1, 0) lay 1 along 0, turned 2; full, and with no ink left.
        BroadNib full = Check.desk("NP222431P222431P222431P222431");
        BroadNib out = Check.desk("NP222431P222431P222431P222431");
        BroadNib lifted = Check.desk("NP222431P222431P222431P222431");
        for (int pen = 0; pen < 4; pen++) {
            for (int i = 0; i < 6; i++) {
                out.step(pen, i % 2 == 0 ? 0 : 4);
            }
            lifted.put(pen);
        }
        CHECK.due("all ink is laid", out.count(3), 20);
        for (int kind = 32; kind < 44; kind++) {
            for (int pen = 0; pen < 4; pen++) {
                boolean meant = (kind - 32) % 4 == pen;
                String told = kind + ", then pen " + pen;
                int laid = !meant || kind >= 40 ? 1 : kind < 36 ? 2 : 0;
                CHECK.due(told, twoYears(full, kind, 8 * pen), laid);
                CHECK.due(told + ", no ink left", twoYears(out, kind, 8 * pen), 40 + (meant && kind >= 40 ? 1 : 0));
                boolean down = meant && kind >= 36 && kind < 40;
                CHECK.due(told + ", lifted", twoYears(lifted, kind, 8 * pen), down ? 1 : 0);
            }
        }
    }

    /** "SLOTS 0 to 1 keep where PENS are, NIBS, INK, who is DOWN, INK on DOTS, THE TIME (THE ROW of ACTS is empty ...)". */
    private static void slotsKeep() {
        for (int slot = 0; slot < 2; slot++) {
            BroadNib nib = Check.desk("NP222439P112669S441");
            nib.step(0, 2);
            CHECK.due("keep", nib.keep(slot), 1);
            CHECK.due("the row stays when kept", nib.count(8), 1);
            nib.step(1, 0);
            nib.turn(1);
            nib.put(0);
            nib.blot(24);
            nib.dip(0);
            nib.step(0, 1);
            CHECK.due("again", nib.again(slot), 1);
            CHECK.due("where", nib.pen(0, 0) * 100 + nib.pen(1, 0), 1706);
            CHECK.due("nibs", nib.pen(0, 2) * 100 + nib.pen(1, 2), 4366);
            CHECK.due("ink", nib.pen(0, 3) * 100 + nib.pen(1, 3), 4345);
            CHECK.due("down", nib.count(5), 3);
            CHECK.due("dots", nib.dot(24) * 100 + nib.dot(17) * 10 + nib.dot(7), 120);
            CHECK.due("time", nib.count(2), 1);
            CHECK.due("the row", nib.count(8), 0);
            CHECK.due("none can be undone", nib.undo(), STATE);
            nib.step(0, 1);
            CHECK.due("the row goes on", nib.count(8), 1);
            CHECK.due("again once more", nib.again(slot), 1);
            CHECK.due("it is kept still", nib.pen(0, 0), 17);
            CHECK.due("the other is not kept", nib.again(1 - slot), STATE);
        }
    }

    private static void slotsAreTwo() {
        BroadNib nib = Check.desk("NP222439");
        CHECK.due("keep(0)", nib.keep(0), 0);
        nib.step(0, 0);
        CHECK.due("keep(1)", nib.keep(1), 1);
        nib.step(0, 0);
        CHECK.due("again(0)", nib.again(0), 0);
        CHECK.due("its dot", nib.pen(0, 0), 12);
        CHECK.due("again(1)", nib.again(1), 1);
        CHECK.due("its dot then", nib.pen(0, 0), 13);
        nib.step(0, 0);
        CHECK.due("keep(0) over it", nib.keep(0), 2);
        CHECK.due("again(1), as it was", nib.again(1), 1);
        CHECK.due("again(0), as it was last", nib.again(0), 2);
        nib.desk();
        CHECK.due("0 is gone by a desk", nib.again(0), STATE);
        CHECK.due("1 is gone by a desk", nib.again(1), STATE);
        nib.keep(1);
        CHECK.due("0 is not kept by 1", nib.again(0), STATE);
        CHECK.due("1 is", nib.again(1), 0);
    }
}
