/** Promises 1 to 9: a new object, write, wipe, fault, desk, word, pen, dot, thick. */
public final class DeskTest {
    private static final Check CHECK = new Check();

    public static void main(String[] args) {
        newObject();
        writing();
        faults();
        desks();
        words();
        pens();
        stops();
        dots();
        thicks();
        CHECK.end();
    }

    private static void newObject() {
        BroadNib nib = new BroadNib();
        for (int what = 0; what <= 9; what++) {
            CHECK.due("new count(" + what + ")", nib.count(what), 0);
        }
        for (int dot = 0; dot < 25; dot++) {
            CHECK.due("new dot(" + dot + ")", nib.dot(dot), 0);
        }
        CHECK.due("new pen", nib.pen(0, 0), BroadNib.UNKNOWN);
        CHECK.due("new seed", nib.seed(9), 0);
        CHECK.due("new again(0)", nib.again(0), BroadNib.STATE);
        CHECK.due("new undo", nib.undo(), BroadNib.STATE);
        CHECK.due("new fault", nib.fault(), 0);
    }

    private static void writing() {
        BroadNib nib = new BroadNib();
        CHECK.due("write(-1)", nib.write(-1), BroadNib.OUTSIDE);
        CHECK.due("write(256)", nib.write(256), BroadNib.OUTSIDE);
        for (int i = 1; i <= 48; i++) {
            CHECK.due("write " + i, nib.write(i % 2 == 0 ? 255 : 0), i);
        }
        CHECK.due("write of a 49th", nib.write('N'), BroadNib.FULL);
        CHECK.due("OUTSIDE ahead of FULL", nib.write(256), BroadNib.OUTSIDE);
        CHECK.due("letters", nib.count(0), 48);
        CHECK.due("wipe", nib.wipe(), 48);
        CHECK.due("wipe again", nib.wipe(), 0);
        CHECK.due("write anew", nib.write('N'), 1);
        CHECK.due("fault of N", nib.fault(), BroadNib.NONE);
    }

    private static void fault(String text, int due) {
        BroadNib nib = new BroadNib();
        Check.write(nib, text);
        CHECK.due("fault of " + text, nib.fault(), due);
        CHECK.due("desk of " + text, due == BroadNib.NONE || nib.desk() == BroadNib.STATE);
        CHECK.due("fault of " + text + " again", nib.fault(), due);
    }

    private static void faults() {
        int none = BroadNib.NONE;
        fault("", 0);
        fault("n", 0);
        fault("PN", 0);
        fault("N", none);
        fault("NN", 1);
        fault("NPS", 2);
        fault("NP", 2);
        fault("NP4", 3);
        fault("NP5", 2);
        fault("NP45", 3);
        fault("NP443", 5);
        fault("NP444", 4);
        fault("NP4436", 6);
        fault("NP4437", 5);
        fault("NP44366", 7);
        fault("NP44367", 6);
        fault("NP443669", none);
        fault("NP44366:", 7);
        fault("NP44366/", 7);
        fault("NP/", 2);
        fault("NP44333", 6);
        fault("NP443337", 6);
        fault("NP44334", 7);
        fault("NP44343", 7);
        fault("NP443430", none);
        fault("NS", 2);
        fault("NS449", none);
        fault("NS549", 2);
        fault("NS459", 3);
        fault("NS44:", 4);
        // A stain's figures are never a nib of no breadth.
        fault("NS333", none);
        fault("NS333S333", none);
        fault("NS449P000000", none);
        fault("NS449x", 5);
        fault("NS000S000S000S000", none);
        fault("NS000S000S000S000S", 17);
        fault("NS000S000S000S000P", 18);
        String fourPens = "NP000000P000000P000000P000000";
        fault(fourPens, none);
        fault(fourPens + "P", 29);
        fault(fourPens + "S", 30);
        String all = fourPens + "S000S000S000S000";
        fault(all, none);
        fault(all + "S", 45);
        fault(all + "P", 45);
        fault("N" + (char) 200, 1);
        // The length of 48 is set aside: a fault further ahead stays the first.
        fault(all + "NNN", 45);
    }

    private static void desks() {
        BroadNib nib = new BroadNib();
        Check.write(nib, "NP120063S347S341S441");
        CHECK.due("no fault", nib.fault(), BroadNib.NONE);
        CHECK.due("one pen", nib.desk(), 1);
        CHECK.due("its text stays", nib.count(0), 20);
        CHECK.due("the last stain holds", nib.dot(23), 1);
        CHECK.due("another stain", nib.dot(24), 1);
        nib.word(3, 246);
        nib.see(1, 2);
        nib.seed(77);
        nib.keep(0);
        nib.step(0, 0);
        nib.put(0);
        CHECK.due("time before", nib.count(2), 1);
        CHECK.due("desk anew", nib.desk(), 1);
        CHECK.due("time is 0", nib.count(2), 0);
        CHECK.due("the row is empty", nib.count(8), 0);
        CHECK.due("nothing to undo", nib.undo(), BroadNib.STATE);
        CHECK.due("what was kept is gone", nib.again(0), BroadNib.STATE);
        CHECK.due("seen stays", nib.count(9), 1);
        CHECK.due("the word stays", nib.count(7), 3);
        CHECK.due("the seed stays", nib.seed(0), 77);
        CHECK.due("down again", nib.count(5), 1);
        CHECK.due("full again", nib.count(6), 1);
        CHECK.due("where it was told", nib.pen(0, 0), 11);
        CHECK.due("ink by stains alone", nib.count(3), 2);
        nib.step(0, 0);
        nib.wipe();
        CHECK.due("no desk: STATE", nib.desk(), BroadNib.STATE);
        CHECK.due("refused: nothing changes", nib.count(2) * 10 + nib.count(8), 11);
        nib.write('N');
        CHECK.due("an empty desk", nib.desk(), 0);
        CHECK.due("no ink", nib.count(3), 0);
        CHECK.due("no pens", nib.pen(0, 0), BroadNib.UNKNOWN);
    }

    private static void words() {
        BroadNib nib = Check.desk("NP220009");
        CHECK.due("word(8, 01234567)", nib.word(8, 1234567), 0);
        CHECK.due("word(0, 0)", nib.word(0, 0), 8);
        CHECK.due("word(0, 1)", nib.word(0, 1), BroadNib.OUTSIDE);
        CHECK.due("word(-1, 0)", nib.word(-1, 0), BroadNib.OUTSIDE);
        CHECK.due("word(9, 0)", nib.word(9, 0), BroadNib.OUTSIDE);
        CHECK.due("word(2, 100)", nib.word(2, 100), BroadNib.OUTSIDE);
        CHECK.due("word(2, -1)", nib.word(2, -1), BroadNib.OUTSIDE);
        CHECK.due("word(2, 80)", nib.word(2, 80), BroadNib.OUTSIDE);
        CHECK.due("word(2, 9)", nib.word(2, 9), BroadNib.OUTSIDE);
        CHECK.due("word of Long.MAX", nib.word(8, Long.MAX_VALUE), BroadNib.OUTSIDE);
        CHECK.due("word of Long.MIN", nib.word(8, Long.MIN_VALUE), BroadNib.OUTSIDE);
        CHECK.due("the word is as it was", nib.count(7), 0);
        CHECK.due("word(8, 77777777)", nib.word(8, 77777777), 0);
        CHECK.due("word(2, 2): 0, then 2", nib.word(2, 2), 8);
        CHECK.due("the first figure is the first step", nib.behind(0, 1, 0), 13);
        CHECK.due("the second one", nib.behind(0, 2, 0), 18);
        CHECK.due("its length", nib.count(7), 2);
    }

    private static void pens() {
        BroadNib nib = Check.desk("NP341207P000059");
        int[] due = {23, 1, 20, 35, 35, 1};
        for (int what = 0; what < due.length; what++) {
            CHECK.due("pen(0, " + what + ")", nib.pen(0, what), due[what]);
        }
        CHECK.due("pen(1, 0)", nib.pen(1, 0), 0);
        CHECK.due("pen(1, 2)", nib.pen(1, 2), 5);
        CHECK.due("pen(1, 4)", nib.pen(1, 4), 45);
        CHECK.due("pen(2, 0)", nib.pen(2, 0), BroadNib.UNKNOWN);
        CHECK.due("pen(-1, 0)", nib.pen(-1, 0), BroadNib.UNKNOWN);
        CHECK.due("pen(4, 9)", nib.pen(4, 9), BroadNib.UNKNOWN);
        CHECK.due("pen(0, 7)", nib.pen(0, 7), BroadNib.OUTSIDE);
        CHECK.due("pen(0, -1)", nib.pen(0, -1), BroadNib.OUTSIDE);
        nib.put(0);
        CHECK.due("lifted", nib.pen(0, 5), 0);
    }

    private static void stops() {
        BroadNib nib = Check.desk("NP220019");
        CHECK.due("the empty word stops nowhere", nib.pen(0, 6), BroadNib.NONE);
        nib.word(2, 0);
        CHECK.due("to the edge", nib.pen(0, 6), BroadNib.NONE);
        nib.word(4, 4000);
        CHECK.due("4000 stays on the sheet", nib.pen(0, 6), BroadNib.NONE);
        nib.word(4, 400);
        CHECK.due("0400 stays on the sheet", nib.pen(0, 6), BroadNib.NONE);
        nib.word(3, 0);
        CHECK.due("000 stops at 2", nib.pen(0, 6), 2);
        nib.word(4, 4);
        CHECK.due("0004 stops at 2, whatever comes behind", nib.pen(0, 6), 2);
        CHECK.due("nothing moved", nib.pen(0, 0), 12);
    }

    private static void dots() {
        BroadNib nib = Check.desk("NS009S449S405");
        CHECK.due("dot(0)", nib.dot(0), 9);
        CHECK.due("dot(24)", nib.dot(24), 9);
        CHECK.due("dot(4)", nib.dot(4), 5);
        CHECK.due("dot(20)", nib.dot(20), 0);
        CHECK.due("dot(-1)", nib.dot(-1), BroadNib.UNKNOWN);
        CHECK.due("dot(25)", nib.dot(25), BroadNib.UNKNOWN);
    }

    private static void thicks() {
        // The nib is (2, -1), for each kind.
        BroadNib nib = Check.desk("NP220529P221529P222529P223529");
        int[][] due = {
            {1, 3, 2, 1, 1, 3, 2, 1},
            {1, 1, 1, 1, 1, 4, 4, 4},
            {2, 4, 3, 2, 2, 4, 3, 2},
            {2, 2, 2, 2, 2, 2, 2, 2},
        };
        for (int pen = 0; pen < 4; pen++) {
            for (int direction = 0; direction < 8; direction++) {
                CHECK.due("thick(" + pen + ", " + direction + ")", nib.thick(pen, direction), due[pen][direction]);
            }
        }
        CHECK.due("along itself", Check.desk("NP000660").thick(0, 1), 0);
        CHECK.due("a ruling pen along itself", Check.desk("NP003660").thick(0, 5), 1);
        CHECK.due("thick(4, 0)", nib.thick(4, 0), BroadNib.UNKNOWN);
        CHECK.due("thick(4, 8)", nib.thick(4, 8), BroadNib.UNKNOWN);
        CHECK.due("thick(0, 8)", nib.thick(0, 8), BroadNib.OUTSIDE);
        CHECK.due("thick(0, -1)", nib.thick(0, -1), BroadNib.OUTSIDE);
    }
}
