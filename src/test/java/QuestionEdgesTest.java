/** "==== 2", sentence by sentence: each boundary that it names, at the value itself and at its neighbours. */
public final class QuestionEdgesTest {
    private static final Check CHECK = new Check();
    private static final int NONE = BroadNib.NONE;
    private static final int[] MORE_IN_X = {1, 1, 0, -1, -1, -1, 0, 1};
    private static final int[] MORE_IN_Y = {0, 1, 1, 1, 0, -1, -1, -1};

    private interface Call {
        long on(BroadNib nib);
    }

    private int ringsFound;
    private int ringsLeast;

    public static void main(String[] args) {
        nothingIsChanged();
        behindByLength();
        behindTillOneCanNotBe();
        behindTillInkIsOut();
        stopsAtEachPlace();
        blackFromThree();
        blackBySteps();
        leastToItsOwnDot();
        leastHoweverMuchInk();
        leastByFewestAndFirst();
        ringsOfOneToFour();
        judgedSteps();
        judgedPutDipTurn();
        judgedBlack();
        judgedInk();
        judgedWriting();
        judgedPlaces();
        judgedNoSuchDoing();
        CHECK.end();
    }

    private static BroadNib made() {
        BroadNib nib = Check.desk("NP220069P001608P442431P043440S223S112");
        nib.word(3, 26);
        nib.see(0, 3);
        nib.seed(77);
        nib.step(2, 6);
        nib.keep(0);
        nib.step(0, 0);
        nib.turn(1);
        nib.put(3);
        return nib;
    }

    private static void changesNothing(String told, Call question) {
        BroadNib nib = made();
        question.on(nib);
        CHECK.due(told + " changes nothing", Probe.useUp(nib).equals(Probe.useUp(made())));
    }

    /** "In what follows nothing is changed." "(Nothing changes but THE SEED.)" */
    private static void nothingIsChanged() {
        for (int i = 0; i < 4; i++) {
            int pen = i;
            int other = (i + 1) % 4;
            changesNothing("behind", nib -> nib.behind(pen, 8, 2));
            changesNothing("stops", nib -> nib.pen(pen, 6));
            changesNothing("least", nib -> nib.least(pen, 24 - pen, 0));
            changesNothing("rings", nib -> nib.rings(pen, 4, 1));
            changesNothing("share", nib -> nib.share(pen, true));
            changesNothing("rests", nib -> nib.rests(pen, other, 0));
            changesNothing("skipped", nib -> nib.skipped(pen, 3, 5, true));
            changesNothing("thick", nib -> nib.thick(pen, 5));
        }
        changesNothing("judge", nib -> nib.judge(4, 100200400700L));
        changesNothing("judge of what can not be", nib -> nib.judge(4, 100700320131L));
        changesNothing("judge of a word", nib -> nib.judge(2, 700710));
        changesNothing("nibs", nib -> nib.nibs(0) + nib.nibs(1));
        changesNothing("fault", BroadNib::fault);
        changesNothing("years", nib -> nib.years(30) + nib.seed(77));
        changesNothing("years by another seed", nib -> nib.seed(5) + nib.years(30) + nib.seed(77));
    }

    /** "BEHIND n STEPS (0 to 8; no more than THE WORD has are done)". */
    private static void behindByLength() {
        BroadNib nib = Check.desk("NP222439");
        for (int length = 0; length <= 8; length++) {
            // There and back, 1 each, from dot 12.
            nib.word(length, length % 2 == 0 ? tens(length) * 4 / 99 : tens(length - 1) * 40 / 99);
            for (int n = 0; n <= 8; n++) {
                int done = Math.min(n, length);
                String told = "behind " + n + " of " + length;
                CHECK.due(told + ", its dot", nib.behind(0, n, 0), 12 + done % 2);
                CHECK.due(told + ", its ink", nib.behind(0, n, 1), 45 - done);
                CHECK.due(told + ", laid", nib.behind(0, n, 2), done);
            }
        }
    }

    private static long tens(int power) {
        return Math.round(Math.pow(10, power));
    }

    /** "one behind the other, each as it can be, till one can not be." */
    private static void behindTillOneCanNotBe() {
        BroadNib nib = Check.desk("NP222439");
        // Right twice, off the sheet, then left: that is not done any more.
        nib.word(4, 4);
        int[] dots = {12, 13, 14, 14, 14, 14, 14, 14, 14};
        for (int n = 0; n <= 8; n++) {
            CHECK.due("behind " + n, nib.behind(0, n, 0), dots[n]);
            CHECK.due("behind " + n + ", laid", nib.behind(0, n, 2), Math.min(n, 2));
        }
        nib = Check.desk("NP442439");
        nib.word(2, 4);
        CHECK.due("the first can not be", nib.behind(0, 2, 0), 24);
        CHECK.due("the first can not be, laid", nib.behind(0, 2, 2), 0);
    }

    private static void behindTillInkIsOut() {
        // 2 each up and down, of 5.
        BroadNib nib = Check.desk("NP222431");
        nib.word(4, 2626);
        int[] laid = {0, 2, 4, 5, 5};
        for (int n = 0; n <= 4; n++) {
            CHECK.due("laid behind " + n, nib.behind(0, n, 2), laid[n]);
            CHECK.due("left behind " + n, nib.behind(0, n, 1), 5 - laid[n]);
            CHECK.due("its dot behind " + n, nib.behind(0, n, 0), n % 2 == 0 ? 12 : 17);
        }
        nib.put(0);
        CHECK.due("lifted, laid", nib.behind(0, 4, 2), 0);
        CHECK.due("lifted, left", nib.behind(0, 4, 1), 5);
        CHECK.due("lifted, its dot", nib.behind(0, 3, 0), 17);
    }

    /** "STOPS: the first of THE WORD (from 0) that can not be; NONE." */
    private static void stopsAtEachPlace() {
        for (int length = 0; length <= 8; length++) {
            for (int place = 0; place <= length; place++) {
                BroadNib nib = Check.desk("NP420439");
                long row = 0;
                for (int i = 0; i < length; i++) {
                    int onTheSheet = i % 2 == 0 ? 2 : 6;
                    row = 10 * row + (i < place ? onTheSheet : i == place ? 0 : 4);
                }
                nib.word(length, row);
                CHECK.due("a word of " + length + " that stops at " + place, nib.pen(0, 6), place < length ? place : NONE);
                nib.put(0);
                CHECK.due("lifted too", nib.pen(0, 6), place < length ? place : NONE);
                CHECK.due("nothing moved", nib.pen(0, 0), 14);
            }
        }
    }

    /** "A DOT is BLACK that has 3 INK or more." */
    private static void blackFromThree() {
        for (int dot = 0; dot < 25; dot++) {
            for (int ink = 0; ink <= 9; ink++) {
                BroadNib nib = Check.desk("NS" + dot % 5 + dot / 5 + ink);
                CHECK.due("black " + dot + " by " + ink, nib.count(4), ink < 3 ? 0 : 1 << dot);
                CHECK.due("judged black", nib.judge(1, 500 + dot % 5 * 10 + dot / 5), ink < 3 ? 0 : NONE);
            }
        }
    }

    private static void blackBySteps() {
        // Ruling pens that lay 2 and 1 along 0.
        BroadNib nib = Check.desk("NP003009P003439");
        nib.step(0, 0);
        CHECK.due("2 is not black", nib.count(4), 0);
        nib.step(1, 0);
        CHECK.due("3 is black", nib.count(4), 2);
        nib.undo();
        CHECK.due("undone it is not", nib.count(4), 0);
        nib.step(1, 0);
        nib.blot(1);
        CHECK.due("blotted it is not", nib.count(4), 0);
    }

    private static void way(BroadNib nib, int pen, int dot, int ink, int steps, int direction) {
        CHECK.due("ink of the way to " + dot, nib.least(pen, dot, 0), ink);
        CHECK.due("steps of the way to " + dot, nib.least(pen, dot, 1), steps);
        CHECK.due("direction of the way to " + dot, nib.least(pen, dot, 2), direction);
    }

    /** "the first DIRECTION (NONE: it is there)". */
    private static void leastToItsOwnDot() {
        for (int dot = 0; dot < 25; dot++) {
            for (int kind = 0; kind < 4; kind++) {
                BroadNib nib = Check.desk("NP" + dot % 5 + dot / 5 + kind + "439");
                way(nib, 0, dot, 0, 0, NONE);
                int next = dot % 5 < 4 ? dot + 1 : dot - 1;
                int direction = dot % 5 < 4 ? 0 : 4;
                way(nib, 0, next, nib.thick(0, direction), 1, direction);
            }
        }
    }

    /** "(if it was DOWN, however much INK there is)". */
    private static void leastHoweverMuchInk() {
        // 4 along 0, of 0, 5 and 45 ink, down or lifted.
        BroadNib nib = Check.desk("NP002000P002001P002009");
        for (int lifted = 0; lifted < 2; lifted++) {
            for (int pen = 0; pen < 3; pen++) {
                way(nib, pen, 4, 16, 4, 0);
                way(nib, pen, 1, 4, 1, 0);
                way(nib, pen, 24, 4, 4, 1);
                nib.put(pen);
            }
        }
    }

    /** "for which THICK of all STEPS together is least, by that of fewest STEPS, by that the first". */
    private static void leastByFewestAndFirst() {
        // A plain pen of nib (1, 0): none along 0 and 4, 1 each other way.
        BroadNib nib = Check.desk("NP000439P220439P440439");
        way(nib, 0, 4, 0, 4, 0);
        // One step by 1, or two by 0 and 2, for the same ink.
        way(nib, 0, 6, 1, 1, 1);
        // By 0 and 1, or by 1 and 0.
        way(nib, 0, 7, 1, 2, 0);
        way(nib, 0, 5, 1, 1, 2);
        way(nib, 0, 10, 2, 2, 1);
        way(nib, 0, 20, 4, 4, 1);
        way(nib, 0, 24, 4, 4, 1);
        way(nib, 1, 15, 1, 2, 3);
        way(nib, 1, 5, 1, 2, 4);
        way(nib, 1, 6, 1, 1, 5);
        way(nib, 1, 2, 2, 2, 5);
        way(nib, 1, 9, 1, 2, 0);
        way(nib, 2, 0, 4, 4, 5);
        way(nib, 2, 4, 4, 4, 5);
        way(nib, 2, 3, 4, 4, 5);
        way(nib, 2, 19, 1, 1, 6);
        // A ruling pen along itself lays 1, else 2: along itself and back is less than straight.
        nib = Check.desk("NP203663");
        way(nib, 0, 4, 3, 2, 1);
        way(nib, 0, 3, 2, 1, 0);
        nib = Check.desk("NP013663");
        way(nib, 0, 7, 3, 2, 1);
        way(nib, 0, 9, 6, 4, 1);
    }

    private void walk(BroadNib nib, int home, int dot, int left, int ink) {
        if (left == 0) {
            if (dot == home) {
                ringsFound++;
                ringsLeast = ringsLeast == NONE ? ink : Math.min(ringsLeast, ink);
            }
            return;
        }
        for (int direction = 0; direction < 8; direction++) {
            int x = dot % 5 + MORE_IN_X[direction];
            int y = dot / 5 + MORE_IN_Y[direction];
            if (x >= 0 && x <= 4 && y >= 0 && y <= 4) {
                walk(nib, home, 5 * y + x, left - 1, ink + nib.thick(0, direction));
            }
        }
    }

    /** "rows of n STEPS by which it comes back to its DOT, never off THE SHEET ... NONE: there is no such row." */
    private static void ringsOfOneToFour() {
        String[] pens = {"0439", "1060", "2151", "3669", "0509"};
        for (int dot = 0; dot < 25; dot++) {
            BroadNib nib = Check.desk("NP" + dot % 5 + dot / 5 + pens[dot % pens.length]);
            for (int n = 1; n <= 4; n++) {
                QuestionEdgesTest walker = new QuestionEdgesTest();
                walker.ringsLeast = NONE;
                walker.walk(nib, dot, dot, n, 0);
                CHECK.due("rings of " + n + " at " + dot, nib.rings(0, n, 0), walker.ringsFound);
                CHECK.due("least of rings of " + n + " at " + dot, nib.rings(0, n, 1), walker.ringsLeast);
            }
            CHECK.due("no ring of 1 at " + dot, nib.rings(0, 1, 0), 0);
            CHECK.due("no least of none at " + dot, nib.rings(0, 1, 1), NONE);
        }
        int[] corner = {0, 3, 6, 38};
        int[] middle = {0, 8, 24, 216};
        for (int n = 1; n <= 4; n++) {
            CHECK.due("rings of " + n + " at a corner", Check.desk("NP440439").rings(0, n, 0), corner[n - 1]);
            CHECK.due("rings of " + n + " in the middle", Check.desk("NP220439").rings(0, n, 0), middle[n - 1]);
        }
        BroadNib nib = Check.desk("NP222660");
        nib.put(0);
        CHECK.due("lifted, of no ink, as if it was down", nib.rings(0, 2, 1), 2);
    }

    private static void judge(BroadNib nib, int n, long row, int due) {
        CHECK.due("judge(" + n + ", " + row + ")", nib.judge(n, row), due);
    }

    /** "1, a PEN, a DIRECTION: a STEP". */
    private static void judgedSteps() {
        // Pen 0 at 0, 0; pen 3 at 4, 4.
        BroadNib nib = Check.desk("NP000439P220439P220439P440439");
        for (int direction = 0; direction <= 9; direction++) {
            judge(nib, 1, 100 + direction, direction <= 2 ? NONE : 0);
            judge(nib, 1, 110 + direction, direction <= 7 ? NONE : 0);
            judge(nib, 1, 130 + direction, direction >= 4 && direction <= 6 ? NONE : 0);
            judge(nib, 1, 140 + direction, 0);
            judge(nib, 1, 190 + direction, 0);
        }
        judge(nib, 4, 100100100100L, NONE);
        judge(nib, 3, 120120120, 2);
    }

    /** "2, 0, a PEN: PUT; 3, 0, a PEN: DIPPED; 4, 0, a PEN: TURNED". */
    private static void judgedPutDipTurn() {
        BroadNib nib = Check.desk("NP222439P222439P222439P222430");
        for (int pen = 0; pen <= 9; pen++) {
            judge(nib, 1, 200 + pen, pen < 4 ? NONE : 0);
            judge(nib, 1, 400 + pen, pen < 4 ? NONE : 0);
            judge(nib, 1, 300 + pen, 0);
        }
        for (int pen = 0; pen < 4; pen++) {
            // Not full behind a step, but for the one that holds none; full again when dipped.
            judge(nib, 2, 100300 + 10001L * pen, pen < 3 ? NONE : 1);
        }
        judge(nib, 3, 100300300, 2);
        // Lifted it lays none and stays full; put down again it does not.
        judge(nib, 3, 200100300, 2);
        judge(nib, 4, 200200100300L, NONE);
        // Turned from (1, 0) to (0, 1) it lays 2 along 0, 1 up.
        judge(nib, 4, 400100100533L, 3);
        // Nib (-3, -3) lays 7 along 3; turned it lays 1.
        nib = Check.desk("NP402009");
        judge(nib, 2, 103531, NONE);
        judge(nib, 3, 400103531, 2);
    }

    /** "5, x, y: that DOT is BLACK". */
    private static void judgedBlack() {
        BroadNib nib = Check.desk("NP003009S043S402S444S009");
        for (int x = 0; x <= 9; x++) {
            for (int y = 0; y <= 9; y++) {
                boolean black = x == 0 && y == 4 || x == 4 && y == 4 || x == 0 && y == 0;
                judge(nib, 1, 500 + 10 * x + y, black ? NONE : 0);
            }
        }
        // 2 more on the stain of 2 at 4, 0.
        judge(nib, 4, 100100100540L, 3);
        nib = Check.desk("NP303009S402");
        judge(nib, 1, 540, 0);
        judge(nib, 2, 100540, NONE);
        judge(nib, 3, 200100540, 2);
    }

    /** "6, a PEN, v: it has v INK or more". */
    private static void judgedInk() {
        BroadNib nib = Check.desk("NP222430P222431P222432P112009");
        for (int v = 0; v <= 9; v++) {
            judge(nib, 1, 600 + v, v <= 0 ? NONE : 0);
            judge(nib, 1, 610 + v, v <= 5 ? NONE : 0);
            judge(nib, 1, 620 + v, NONE);
            judge(nib, 2, 120620 + v, NONE);
            judge(nib, 3, 120120620 + v, v <= 8 ? NONE : 2);
            judge(nib, 2, 110610 + v, v <= 4 ? NONE : 1);
            judge(nib, 1, 640 + v, 0);
        }
    }

    /** "7, a PEN, 0: it WRITES THE WORD, all of it". */
    private static void judgedWriting() {
        // From x of 2, 1, 0 and 4.
        BroadNib nib = Check.desk("NP222431P112439P002439P442439");
        for (int pen = 0; pen <= 9; pen++) {
            judge(nib, 1, 700 + 10 * pen, pen < 4 ? NONE : 0);
        }
        int[] farthest = {2, 3, 4, 0};
        for (int length = 1; length <= 5; length++) {
            nib.word(length, 0);
            for (int pen = 0; pen < 4; pen++) {
                judge(nib, 1, 700 + 10 * pen, length <= farthest[pen] ? NONE : 0);
                judge(nib, 1, 701 + 10 * pen, 0);
            }
        }
        nib.word(2, 0);
        judge(nib, 2, 720720, NONE);
        judge(nib, 3, 720720720, 2);
        judge(nib, 2, 700603, NONE);
        judge(nib, 2, 700604, 1);
        nib.word(8, 40404040);
        judge(nib, 1, 700, NONE);
        judge(nib, 2, 700600, NONE);
        judge(nib, 2, 700601, 1);
        nib.word(8, 40404020);
        judge(nib, 1, 700, NONE);
        nib.word(8, 40404022);
        judge(nib, 1, 700, NONE);
        nib.word(8, 40422222);
        judge(nib, 1, 700, 0);
    }

    /** "n doings (1 to 4) ... the place of the first that can not be (or is not so); NONE: none." */
    private static void judgedPlaces() {
        BroadNib nib = Check.desk("NP222439");
        for (int n = 1; n <= 4; n++) {
            long good = 200 * ((tens(3 * n) - 1) / 999);
            judge(nib, n, good, NONE);
            for (int place = 0; place < n; place++) {
                long unit = tens(3 * (n - 1 - place));
                judge(nib, n, good + 100 * unit, place);
                judge(nib, n, good + 600 * unit, place);
                if (place + 1 < n) {
                    judge(nib, n, good + 100 * unit + 100 * unit / 1000, place);
                }
            }
        }
        // Each figure is found however many of 0 or of 9 come behind it.
        for (int n = 2; n <= 4; n++) {
            long unit = tens(3 * (n - 1));
            judge(nib, n, 100 * unit, 1);
            judge(nib, n, 609 * unit + unit - 1, 1);
            judge(nib, n, 610 * unit - 1 + unit, 0);
        }
        // Figures that are not told are 0, which is no doing.
        judge(nib, 4, 200, 0);
        judge(nib, 2, 200, 0);
    }

    private static void judgedNoSuchDoing() {
        BroadNib nib = Check.desk("NP222439P222439P222439P222439S009S109S019S119");
        nib.step(0, 0);
        for (int figures = 0; figures < 1000; figures++) {
            int kind = figures / 100;
            int middle = figures / 10 % 10;
            int last = figures % 10;
            boolean can = switch (kind) {
                case 1 -> middle < 4 && last < 8;
                case 2, 4 -> middle == 0 && last < 4;
                case 3 -> middle == 0 && last == 0;
                case 5 -> middle < 2 && last < 2;
                case 6 -> middle < 4;
                case 7 -> middle < 4 && last == 0;
                default -> false;
            };
            judge(nib, 1, figures, can ? NONE : 0);
        }
    }
}
