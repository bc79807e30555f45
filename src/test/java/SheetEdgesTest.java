/** "==== 1", sentence by sentence: each boundary that it names, at the value itself and at its neighbours. */
public final class SheetEdgesTest {
    private static final Check CHECK = new Check();
    private static final int STATE = BroadNib.STATE, NONE = BroadNib.NONE;
    private static final int[] MORE_IN_X = {1, 1, 0, -1, -1, -1, 0, 1};
    private static final int[] MORE_IN_Y = {0, 1, 1, 1, 0, -1, -1, -1};
    private static final String FOUR_PENS = "NP000000P100000P200000P300000";
    private static final String FOUR_STAINS = "S001S101S201S301";

    public static void main(String[] args) {
        newObject();
        dotsAndDirections();
        lettersOfParts();
        nibOfNoBreadth();
        cutShort();
        howManyParts();
        firstOfSeveralFaults();
        numberedAsTold();
        fullInk();
        stains();
        deskAnew();
        plainThick();
        pointedThick();
        brushAndRulingThick();
        noMoreThanItHas();
        ninetyNineAtMost();
        liftedOrDown();
        timeOfActs();
        dips();
        turns();
        blots();
        wordOfNoneToEight();
        wordIsChangedByNothingElse();
        fourteenActs();
        actsBehindUndone();
        everyKindUndone();
        fiveHundredAndTwelveCalls();
        CHECK.end();
    }

    /** "At first there are no PENS, no DOT has INK, THE WORD is empty." */
    private static void newObject() {
        BroadNib nib = new BroadNib();
        CHECK.due("no pens", nib.count(1), 0);
        CHECK.due("pen 0", nib.pen(0, 0), BroadNib.UNKNOWN);
        for (int dot = 0; dot < 25; dot++) {
            CHECK.due("ink on " + dot, nib.dot(dot), 0);
        }
        CHECK.due("the word", nib.count(7), 0);
        CHECK.due("it had none", nib.word(2, 11), 0);
        CHECK.due("the text", nib.count(0), 0);
        CHECK.due("the time", nib.count(2), 0);
        CHECK.due("the acts", nib.count(8), 0);
    }

    /** "DOT 5 y + x is at x, y (0 to 4 each; y goes up)"; "it is at the next DOT that way (it must be on THE SHEET)". */
    private static void dotsAndDirections() {
        for (int dot = 0; dot < 25; dot++) {
            int x = dot % 5;
            int y = dot / 5;
            for (int direction = 0; direction < 8; direction++) {
                BroadNib nib = Check.desk("NP" + x + y + "2439S" + x + y + "7");
                CHECK.due("its dot", nib.pen(0, 0), dot);
                CHECK.due("its stain", nib.dot(dot), 7);
                int nextX = x + MORE_IN_X[direction];
                int nextY = y + MORE_IN_Y[direction];
                boolean can = nextX >= 0 && nextX <= 4 && nextY >= 0 && nextY <= 4;
                int got = nib.step(0, direction);
                CHECK.due(x + ", " + y + " by " + direction, got, can ? nib.thick(0, direction) : STATE);
                CHECK.due("its dot then", nib.pen(0, 0), can ? 5 * nextY + nextX : dot);
                CHECK.due("the time then", nib.count(2), can ? 1 : 0);
                CHECK.due("ink then", nib.count(3), can ? 7 + got : 7);
                CHECK.due("acts then", nib.count(8), can ? 1 : 0);
            }
        }
    }

    private static int fault(String text) {
        BroadNib nib = new BroadNib();
        Check.write(nib, text);
        return nib.fault();
    }

    /** The letter at a place of a text that has no fault: those from '0' on, so many, leave it so; others are the fault. */
    private static void lettersAt(String text, int place, int most) {
        for (int letter = 0; letter < 256; letter++) {
            String changed = text.substring(0, place) + (char) letter + text.substring(place + 1);
            boolean fits = letter >= '0' && letter <= '0' + most;
            CHECK.due("letter " + letter + " at " + place + " of " + text, fault(changed), fits ? NONE : place);
        }
    }

    /** "N, then PARTS"; "Pxykabi": x, y 0 to 4, k 0 to 3, a, b 0 to 6, i 0 to 9; "Sxyv": x, y 0 to 4, v 0 to 9. */
    private static void lettersOfParts() {
        int[] ofPen = {4, 4, 3, 6, 6, 9};
        int[] ofStain = {4, 4, 9};
        for (int i = 0; i < ofPen.length; i++) {
            lettersAt("NP220529", 2 + i, ofPen[i]);
            lettersAt("NS333P220259P110529", 13 + i, ofPen[i]);
        }
        for (int i = 0; i < ofStain.length; i++) {
            lettersAt("NS225", 2 + i, ofStain[i]);
            lettersAt("NP220529S225S335", 13 + i, ofStain[i]);
        }
        for (int letter = 0; letter < 256; letter++) {
            CHECK.due("the first letter " + letter, fault("" + (char) letter), letter == 'N' ? NONE : 0);
            boolean part = letter == 'P' || letter == 'S';
            CHECK.due("behind N " + letter, fault("N" + (char) letter), part ? 2 : 1);
            CHECK.due("behind a pen " + letter, fault("NP220529" + (char) letter), part ? 9 : 8);
            CHECK.due("behind a stain " + letter, fault("NS225" + (char) letter), part ? 6 : 5);
        }
    }

    /** "a, b 0 to 6, not 3 both". */
    private static void nibOfNoBreadth() {
        for (int a = 0; a <= 6; a++) {
            for (int b = 0; b <= 6; b++) {
                boolean none = a == 3 && b == 3;
                CHECK.due("nib " + a + b, fault("NP220" + a + b + "9"), none ? 6 : NONE);
                CHECK.due("nib " + a + b + " cut short", fault("NP220" + a + b), none ? 6 : 7);
            }
        }
        CHECK.due("a alone is no fault", fault("NP2203"), 6);
        CHECK.due("the second pen's", fault("NP220439P220339"), 13);
        CHECK.due("figures of 3 elsewhere", fault("NP333433S333"), NONE);
    }

    /** "its length, if it is only not at its end; NONE: none." */
    private static void cutShort() {
        String text = FOUR_PENS + FOUR_STAINS;
        for (int length = 0; length <= text.length(); length++) {
            boolean end = length >= 1 && (length <= 29 ? (length - 1) % 7 == 0 : (length - 29) % 4 == 0);
            CHECK.due("the first " + length, fault(text.substring(0, length)), end ? NONE : length);
        }
    }

    /** "PENS (4 at most)", "STAINS (4 at most)", "PARTS, none or more". */
    private static void howManyParts() {
        CHECK.due("no parts", fault("N"), NONE);
        CHECK.due("three pens", fault(FOUR_PENS.substring(0, 22)), NONE);
        CHECK.due("four pens", fault(FOUR_PENS), NONE);
        CHECK.due("the fifth pen's letter", fault(FOUR_PENS + "P"), 29);
        CHECK.due("five pens", fault(FOUR_PENS + "P000000"), 29);
        CHECK.due("three stains", fault("N" + FOUR_STAINS.substring(0, 12)), NONE);
        CHECK.due("four stains", fault("N" + FOUR_STAINS), NONE);
        CHECK.due("the fifth stain's letter", fault("N" + FOUR_STAINS + "S"), 17);
        CHECK.due("five stains", fault("N" + FOUR_STAINS + "S001"), 17);
        CHECK.due("four of each", fault(FOUR_PENS + FOUR_STAINS), NONE);
        CHECK.due("four of each, stains ahead", fault("N" + FOUR_STAINS + FOUR_PENS.substring(1)), NONE);
        CHECK.due("a fifth pen behind stains", fault(FOUR_PENS + FOUR_STAINS + "P"), 45);
        CHECK.due("a fifth stain behind pens", fault(FOUR_PENS + FOUR_STAINS + "S"), 45);
        CHECK.due("four pens, a stain", fault(FOUR_PENS + "S"), 30);
        CHECK.due("four stains, a pen", fault("N" + FOUR_STAINS + "P"), 18);
        CHECK.due("in turns", fault("NP000000S001P000000S001P000000S001P000000S001"), NONE);
        CHECK.due("in turns, one more", fault("NP000000S001P000000S001P000000S001P000000S001P00"), 45);
        BroadNib nib = Check.desk(FOUR_PENS + FOUR_STAINS);
        CHECK.due("all are there", nib.count(1) * 10 + nib.count(3), 44);
    }

    /** "the place of the first letter by which THE TEXT can be no DESK, whatever came behind it (its length set aside)". */
    private static void firstOfSeveralFaults() {
        CHECK.due("two faults", fault("NP920529P920529"), 2);
        CHECK.due("no N, and a fault", fault("xP920529"), 0);
        CHECK.due("a fault ahead of the end", fault("NP9"), 2);
        CHECK.due("a fault is last", fault("NP220529x"), 8);
        CHECK.due("47 letters", fault(FOUR_PENS + FOUR_STAINS + "xx"), 45);
        CHECK.due("48 letters", fault(FOUR_PENS + FOUR_STAINS + "xxx"), 45);
        CHECK.due("a text of 48 letters N", fault("N".repeat(48)), 1);
        CHECK.due("a text of 48 letters x", fault("x".repeat(48)), 0);
    }

    /** "PENS are numbered as they are told, STAINS have no numbers". */
    private static void numberedAsTold() {
        BroadNib nib = Check.desk("NS001P100009S011P011601S021P222012S031P333441");
        int[] dots = {1, 5, 12, 18};
        int[] kinds = {0, 1, 2, 3};
        int[] nibs = {0, 60, 1, 44};
        int[] inks = {45, 5, 10, 5};
        for (int pen = 0; pen < 4; pen++) {
            CHECK.due("dot of " + pen, nib.pen(pen, 0), dots[pen]);
            CHECK.due("kind of " + pen, nib.pen(pen, 1), kinds[pen]);
            CHECK.due("nib of " + pen, nib.pen(pen, 2), nibs[pen]);
            CHECK.due("ink of " + pen, nib.pen(pen, 4), inks[pen]);
        }
    }

    /** "it holds 5 times i (0 to 9) INK, when it is FULL". */
    private static void fullInk() {
        for (int i = 0; i <= 9; i++) {
            BroadNib nib = Check.desk("NP22052" + i);
            CHECK.due("ink of " + i, nib.pen(0, 3), 5 * i);
            CHECK.due("ink when full of " + i, nib.pen(0, 4), 5 * i);
            CHECK.due("full of " + i, nib.count(6), 1);
        }
    }

    /** "the DOT there has v (0 to 9) INK (of several at one DOT the last one holds)". */
    private static void stains() {
        for (int v = 0; v <= 9; v++) {
            CHECK.due("a stain of " + v, Check.desk("NS34" + v).dot(23), v);
        }
        CHECK.due("9, then 0", Check.desk("NS349S340").dot(23), 0);
        CHECK.due("0, then 9", Check.desk("NS340S349").dot(23), 9);
        CHECK.due("5, 3, 4", Check.desk("NS345S343S344").dot(23), 4);
        CHECK.due("1, 9, 8, 2", Check.desk("NS341S349S348S342").count(3), 2);
        CHECK.due("at x, y, not y, x", Check.desk("NS349").dot(19), 0);
        CHECK.due("apart by one", Check.desk("NS341S332").dot(23) * 10 + Check.desk("NS341S332").dot(18), 12);
    }

    /** "When THE DESK is made anew, PENS are as told, FULL, DOWN, DOTS have INK by STAINS alone, THE TIME is 0". */
    private static void deskAnew() {
        BroadNib nib = Check.desk("NP222439P112449S442S002");
        nib.word(3, 123);
        nib.step(0, 2);
        nib.turn(0);
        nib.put(0);
        nib.put(1);
        nib.blot(24);
        CHECK.due("desk", nib.desk(), 2);
        CHECK.due("where", nib.pen(0, 0), 12);
        CHECK.due("nib", nib.pen(0, 2), 43);
        CHECK.due("ink", nib.pen(0, 3), 45);
        CHECK.due("down", nib.count(5), 3);
        CHECK.due("full", nib.count(6), 3);
        CHECK.due("stains alone", nib.count(3), 4);
        CHECK.due("the stain is back", nib.dot(24), 2);
        CHECK.due("what was laid is gone", nib.dot(17), 0);
        CHECK.due("time", nib.count(2), 0);
        CHECK.due("the word stays", nib.count(7), 3);
        CHECK.due("a text that is changed is no desk yet", nib.wipe() * 10 + nib.count(1), 232);
    }

    /** "PLAIN: p b less q a, without its sign." */
    private static void plainThick() {
        for (int a = -3; a <= 3; a++) {
            for (int b = -3; b <= 3; b++) {
                if (a == 0 && b == 0) {
                    continue;
                }
                BroadNib nib = Check.desk("NP220" + (a + 3) + (b + 3) + "9");
                int[] due = {b, b - a, a, a + b, b, b - a, a, a + b};
                for (int direction = 0; direction < 8; direction++) {
                    CHECK.due("thick of " + a + ", " + b + " by " + direction, nib.thick(0, direction),
                        Math.abs(due[direction]));
                }
            }
        }
        BroadNib nib = Check.desk("NP220669");
        CHECK.due("none along itself", nib.thick(0, 1), 0);
        CHECK.due("6 across", nib.thick(0, 3), 6);
        CHECK.due("6 across, back", nib.thick(0, 7), 6);
    }

    private static void thick(String pen, int... due) {
        BroadNib nib = Check.desk("NP22" + pen + "9");
        for (int direction = 0; direction < 8; direction++) {
            CHECK.due("thick of " + pen + " by " + direction, nib.thick(0, direction), due[direction]);
        }
    }

    /** "POINTED: 1, if q is 0 or more; else 1 and a and b, both without their signs." */
    private static void pointedThick() {
        thick("106", 1, 1, 1, 1, 1, 7, 7, 7);
        thick("160", 1, 1, 1, 1, 1, 7, 7, 7);
        thick("100", 1, 1, 1, 1, 1, 7, 7, 7);
        thick("166", 1, 1, 1, 1, 1, 7, 7, 7);
        thick("134", 1, 1, 1, 1, 1, 2, 2, 2);
        thick("132", 1, 1, 1, 1, 1, 2, 2, 2);
        thick("143", 1, 1, 1, 1, 1, 2, 2, 2);
        thick("123", 1, 1, 1, 1, 1, 2, 2, 2);
        thick("125", 1, 1, 1, 1, 1, 4, 4, 4);
    }

    /** "BRUSH: 1 more than if it was PLAIN. RULING: as a BRUSH, 2 at most." */
    private static void brushAndRulingThick() {
        thick("266", 4, 1, 4, 7, 4, 1, 4, 7);
        thick("234", 2, 2, 1, 2, 2, 2, 1, 2);
        // Plain it would be 3, 0, 3, 6; 0, 1, 1, 1; 0, 2, 2, 2.
        thick("366", 2, 1, 2, 2, 2, 1, 2, 2);
        thick("343", 1, 2, 2, 2, 1, 2, 2, 2);
        thick("353", 1, 2, 2, 2, 1, 2, 2, 2);
    }

    /** "it lays as much INK as it is THICK that way, no more than it has ... and has so much less." */
    private static void noMoreThanItHas() {
        // All have 5, or none; thick by 4, 5, 6 and 7 along 3.
        String[] pens = {"220551", "222551", "220661", "222661", "222660"};
        int[] laid = {4, 5, 5, 5, 0};
        for (int i = 0; i < pens.length; i++) {
            BroadNib nib = Check.desk("NP" + pens[i]);
            int had = nib.pen(0, 3);
            CHECK.due("step of " + pens[i], nib.step(0, 3), laid[i]);
            CHECK.due("ink there", nib.dot(16), laid[i]);
            CHECK.due("ink left", nib.pen(0, 3), had - laid[i]);
            CHECK.due("it went", nib.pen(0, 0), 16);
            CHECK.due("the time", nib.count(2), 1);
            CHECK.due("by one more step", nib.step(0, 7), i == 0 ? 1 : 0);
            CHECK.due("ink left then", nib.pen(0, 3), 0);
        }
    }

    /** So much is on dot 16; pen 1 of thick 6 stands one step by 7 from there. */
    private static BroadNib nearlyFullDot(int ink) {
        BroadNib nib = Check.desk("NP222669P040669S13" + (ink - 91));
        for (int i = 0; i < 13; i++) {
            nib.step(0, 3);
            nib.step(0, 7);
            if (nib.pen(0, 3) < 14) {
                nib.dip(0);
            }
        }
        CHECK.due("ink that is there", nib.dot(16), ink);
        return nib;
    }

    /** "(99 at most there; what is more is lost)". */
    private static void ninetyNineAtMost() {
        int[] before = {92, 93, 94, 99};
        int[] then = {98, 99, 99, 99};
        for (int i = 0; i < before.length; i++) {
            BroadNib nib = nearlyFullDot(before[i]);
            nib.word(1, 7);
            CHECK.due("behind, laid", nib.behind(1, 1, 2), 6);
            CHECK.due("behind, left", nib.behind(1, 1, 1), 39);
            CHECK.due("chance of all", nib.skipped(1, 6, 0, true), 1);
            CHECK.due("it lays 6", nib.step(1, 7), 6);
            CHECK.due("on " + before[i], nib.dot(16), then[i]);
            CHECK.due("it has 6 less", nib.pen(1, 3), 39);
            CHECK.due("ink on all", nib.count(3), then[i] + 91);
            nib.undo();
            CHECK.due("undone", nib.dot(16), before[i]);
            CHECK.due("undone, its ink", nib.pen(1, 3), 45);
        }
        BroadNib nib = nearlyFullDot(99);
        CHECK.due("blot of 99", nib.blot(16), 99);
    }

    /** "If it is DOWN, it lays"; "PUT: a PEN that is DOWN is lifted, one that is not is DOWN." */
    private static void liftedOrDown() {
        BroadNib nib = Check.desk("NP222669");
        int[] down = {0, 1, 0, 1};
        for (int i = 0; i < down.length; i++) {
            CHECK.due("put", nib.put(0), down[i]);
            CHECK.due("pen(0, 5)", nib.pen(0, 5), down[i]);
            CHECK.due("who is down", nib.count(5), down[i]);
            CHECK.due("it lays", nib.step(0, i % 2 == 0 ? 3 : 7), 7 * down[i]);
            CHECK.due("the time", nib.count(2), i + 1);
        }
        CHECK.due("ink where it came down", nib.dot(12), 14);
        CHECK.due("no ink where it came lifted", nib.dot(16), 0);
        CHECK.due("ink left", nib.pen(0, 3), 31);
    }

    /** "THE TIME is one more" by a STEP; by no other ACT. */
    private static void timeOfActs() {
        BroadNib nib = Check.desk("NP222669S001");
        nib.step(0, 0);
        CHECK.due("a step", nib.count(2), 1);
        nib.put(0);
        CHECK.due("put", nib.count(2), 1);
        nib.dip(0);
        CHECK.due("dipped", nib.count(2), 1);
        nib.turn(0);
        CHECK.due("turned", nib.count(2), 1);
        nib.blot(0);
        CHECK.due("blotted", nib.count(2), 1);
        nib.step(0, 4);
        CHECK.due("a step, lifted", nib.count(2), 2);
    }

    /** "DIPPED: a PEN that is not FULL is FULL." */
    private static void dips() {
        // A brush of nib (3, 3) lays 1 along 1, 4 along 0.
        BroadNib nib = Check.desk("NP002661P002660");
        CHECK.due("full", nib.dip(0), STATE);
        nib.step(0, 1);
        CHECK.due("it has 4", nib.count(6), 2);
        CHECK.due("dipped for 1", nib.dip(0), 1);
        CHECK.due("it has 5", nib.pen(0, 3) * 10 + nib.count(6), 53);
        CHECK.due("full again", nib.dip(0), STATE);
        nib.step(0, 0);
        nib.step(0, 1);
        CHECK.due("it has none", nib.pen(0, 3), 0);
        CHECK.due("dipped for 5", nib.dip(0), 5);
        nib.undo();
        CHECK.due("undone, dipped again", nib.dip(0), 5);
        nib.step(1, 0);
        CHECK.due("one that holds none is full", nib.dip(1), STATE);
        nib.put(0);
        nib.step(0, 4);
        CHECK.due("lifted it stays full", nib.dip(0), STATE);
    }

    private static void turned(String told, int... due) {
        BroadNib nib = Check.desk("NP220" + told + "9");
        for (int i = 0; i < due.length; i++) {
            CHECK.due(told + " turned " + (i + 1), nib.turn(0), due[i]);
            CHECK.due("as pen() tells it", nib.pen(0, 2), due[i]);
        }
    }

    /** "TURNED: the NIB (a, b) of a PEN is (0 less b, a)": by four it is as it was. */
    private static void turns() {
        turned("34", 23, 32, 43, 34, 23);
        turned("60", 66, 6, 0, 60, 66);
        turned("63", 36, 3, 30, 63, 36);
        turned("54", 25, 12, 41, 54, 25);
    }

    /** "BLOTTED: a DOT that has INK has none." */
    private static void blots() {
        BroadNib nib = Check.desk("NS000S101S202S449");
        CHECK.due("a stain of 0", nib.blot(0), STATE);
        CHECK.due("of 1", nib.blot(1), 1);
        CHECK.due("of 1 again", nib.blot(1), STATE);
        CHECK.due("of 2", nib.blot(2), 2);
        CHECK.due("of 9", nib.blot(24), 9);
        CHECK.due("no ink is left", nib.count(3), 0);
        CHECK.due("three acts", nib.count(8), 3);
        nib.undo();
        CHECK.due("undone, blotted again", nib.blot(24), 9);
    }

    /** "THE WORD is a row of 0 to 8 DIRECTIONS, told by a call". */
    private static void wordOfNoneToEight() {
        BroadNib nib = Check.desk("NP000669");
        int[] dots = {0, 1, 6, 11, 10, 5, 0, 1, 6};
        long row = 0;
        int[] word = {0, 2, 2, 4, 6, 6, 0, 2};
        for (int n = 0; n <= 8; n++) {
            CHECK.due("word of " + n, nib.word(n, row), n == 0 ? 0 : n - 1);
            CHECK.due("its length", nib.count(7), n);
            CHECK.due("where it ends", nib.behind(0, 8, 0), dots[n]);
            row = n < 8 ? 10 * row + word[n] : row;
        }
        CHECK.due("of 8 to none", nib.word(0, 0), 8);
        CHECK.due("it goes nowhere", nib.behind(0, 8, 0), 0);
    }

    private static void wordStays(String by, BroadNib nib) {
        CHECK.due("the word's length stays by " + by, nib.count(7), 3);
        nib.wipe();
        Check.write(nib, "NP220669");
        nib.desk();
        int[] dots = {12, 13, 18, 22};
        for (int n = 0; n <= 3; n++) {
            CHECK.due("the word stays by " + by, nib.behind(0, n, 0), dots[n]);
        }
    }

    private static BroadNib withWord() {
        BroadNib nib = Check.desk("NP220669P110669");
        nib.word(3, 23);
        return nib;
    }

    /** "it is changed by nothing else." */
    private static void wordIsChangedByNothingElse() {
        BroadNib nib = withWord();
        nib.desk();
        wordStays("desk", nib);
        nib = withWord();
        nib.keep(0);
        nib.word(1, 1);
        nib.word(3, 23);
        nib.again(0);
        wordStays("again", nib);
        nib = withWord();
        nib.step(0, 0);
        nib.undo();
        wordStays("undo", nib);
        nib = withWord();
        nib.years(30);
        nib.judge(2, 700710);
        nib.share(0, true);
        nib.rests(0, 1, 0);
        nib.skipped(0, 1, 5, true);
        wordStays("questions", nib);
        nib = withWord();
        nib.word(9, 0);
        nib.word(2, 88);
        nib.word(1, 10);
        wordStays("words that are refused", nib);
        nib = withWord();
        nib.keep(1);
        nib.word(2, 11);
        nib.again(1);
        CHECK.due("a slot keeps no word", nib.count(7), 2);
    }

    /** "ACTS are a row (14 at most; of more the first one is forgotten); the last one can be undone." */
    private static void fourteenActs() {
        int[] many = {0, 1, 2, 13, 14, 15, 16, 27, 28, 29, 42, 43};
        for (int acts : many) {
            BroadNib nib = Check.desk("NP222669");
            for (int i = 0; i < acts; i++) {
                nib.step(0, i % 2 == 0 ? 1 : 5);
            }
            int kept = Math.min(acts, 14);
            CHECK.due("acts of " + acts, nib.count(8), kept);
            for (int left = kept - 1; left >= 0; left--) {
                CHECK.due("undo of " + acts, nib.undo(), left);
                int time = acts - kept + left;
                CHECK.due("the time then", nib.count(2), time);
                CHECK.due("its dot then", nib.pen(0, 0), time % 2 == 0 ? 12 : 18);
                CHECK.due("its ink then", nib.pen(0, 3), 45 - time);
            }
            CHECK.due("no more of " + acts, nib.undo(), STATE);
            CHECK.due("acts then", nib.count(8), 0);
        }
    }

    /** Undone acts are no longer in the row: it has room for as many again. */
    private static void actsBehindUndone() {
        for (int undone = 0; undone <= 14; undone++) {
            BroadNib nib = Check.desk("NP222669");
            for (int i = 0; i < 17; i++) {
                nib.step(0, i % 2 == 0 ? 1 : 5);
            }
            for (int i = 0; i < undone; i++) {
                nib.undo();
            }
            for (int i = 0; i < 5; i++) {
                nib.turn(0);
                CHECK.due("acts behind " + undone + " undone", nib.count(8), Math.min(14 - undone + i + 1, 14));
            }
            int left = nib.count(8);
            for (int i = 0; i < left; i++) {
                CHECK.due("undo behind " + undone + " undone", nib.undo(), left - 1 - i);
            }
            CHECK.due("its nib", nib.pen(0, 2), 66);
            int forgotten = Math.max(0, 14 - undone + 5 - 14);
            CHECK.due("the time that can not be undone", nib.count(2), 3 + forgotten);
        }
    }

    /** Each of the five kinds is an act, and undone as it was. */
    private static void everyKindUndone() {
        BroadNib nib = Check.desk("NP222669P000439S334S019");
        nib.step(0, 1);
        nib.put(1);
        nib.dip(0);
        nib.turn(0);
        nib.blot(5);
        CHECK.due("five acts", nib.count(8), 5);
        CHECK.due("the blot undone", nib.undo(), 4);
        CHECK.due("its ink", nib.dot(5), 9);
        CHECK.due("the turn undone", nib.undo(), 3);
        CHECK.due("its nib", nib.pen(0, 2), 66);
        CHECK.due("the dip undone", nib.undo(), 2);
        CHECK.due("its ink", nib.pen(0, 3), 44);
        CHECK.due("the put undone", nib.undo(), 1);
        CHECK.due("who is down", nib.count(5), 3);
        CHECK.due("the time till then", nib.count(2), 1);
        CHECK.due("the step undone", nib.undo(), 0);
        CHECK.due("its dot", nib.pen(0, 0), 12);
        CHECK.due("its ink", nib.pen(0, 3), 45);
        CHECK.due("the stain there", nib.dot(18), 4);
        CHECK.due("the time", nib.count(2), 0);
    }

    /** "An object is used for at most 512 calls after it has been made". */
    private static void fiveHundredAndTwelveCalls() {
        BroadNib nib = new BroadNib();
        Check.write(nib, "NP222669");
        nib.desk();
        for (int call = 10; call <= 511; call++) {
            nib.step(0, call % 2 == 0 ? 1 : 5);
        }
        CHECK.due("the 512th call", nib.count(2), 502);
    }
}
