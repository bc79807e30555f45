/** Promises 10 to 15: step, put, dip, turn, blot, undo. */
public final class ActsTest {
    private static final Check CHECK = new Check();

    public static void main(String[] args) {
        steps();
        edges();
        inkRunsOut();
        ninetyNine();
        puts();
        dips();
        turns();
        blots();
        undone();
        undoneOfSeveral();
        forgotten();
        CHECK.end();
    }

    private static void steps() {
        // In the middle of the sheet, with a brush of nib (1, 0).
        int[] next = {13, 18, 17, 16, 11, 6, 7, 8};
        int[] laid = {1, 2, 2, 2, 1, 2, 2, 2};
        for (int direction = 0; direction < 8; direction++) {
            BroadNib nib = Check.desk("NP222439");
            CHECK.due("step(0, " + direction + ")", nib.step(0, direction), laid[direction]);
            CHECK.due("its dot", nib.pen(0, 0), next[direction]);
            CHECK.due("ink there", nib.dot(next[direction]), laid[direction]);
            CHECK.due("ink where it was", nib.dot(12), 0);
            CHECK.due("ink left", nib.pen(0, 3), 45 - laid[direction]);
            CHECK.due("the time", nib.count(2), 1);
            CHECK.due("acts", nib.count(8), 1);
        }
        BroadNib nib = Check.desk("NP222439");
        CHECK.due("step(1, 9)", nib.step(1, 9), BroadNib.UNKNOWN);
        CHECK.due("step(-1, 0)", nib.step(-1, 0), BroadNib.UNKNOWN);
        CHECK.due("step(0, 8)", nib.step(0, 8), BroadNib.OUTSIDE);
        CHECK.due("step(0, -1)", nib.step(0, -1), BroadNib.OUTSIDE);
        CHECK.due("the time is 0", nib.count(2), 0);
        CHECK.due("no act", nib.count(8), 0);
    }

    private static void edges() {
        String[] corners = {"NP002439", "NP402439", "NP042439", "NP442439"};
        int[] open = {0b00000111, 0b00011100, 0b11000001, 0b01110000};
        for (int corner = 0; corner < 4; corner++) {
            for (int direction = 0; direction < 8; direction++) {
                BroadNib nib = Check.desk(corners[corner]);
                int dot = nib.pen(0, 0);
                boolean can = (open[corner] >> direction & 1) == 1;
                CHECK.due(corners[corner] + " " + direction, nib.step(0, direction) == BroadNib.STATE, !can);
                CHECK.due(corners[corner] + " " + direction + " moves", nib.pen(0, 0) != dot, can);
                CHECK.due(corners[corner] + " " + direction + " time", nib.count(2), can ? 1 : 0);
            }
        }
    }

    private static void inkRunsOut() {
        BroadNib nib = Check.desk("NP000631");
        CHECK.due("3 of 5", nib.step(0, 2), 3);
        CHECK.due("no more than it has", nib.step(0, 2), 2);
        CHECK.due("none left", nib.step(0, 2), 0);
        CHECK.due("it moved", nib.pen(0, 0), 15);
        CHECK.due("the dot has none", nib.dot(15), 0);
        CHECK.due("ink on all", nib.count(3), 5);
    }

    private static void ninetyNine() {
        // A brush of nib (-3, 3) lays 7 along (1, 1).
        BroadNib nib = Check.desk("NP112069");
        for (int i = 0; i < 14; i++) {
            CHECK.due("there", nib.step(0, 1), 7);
            CHECK.due("back", nib.step(0, 5), 7);
            if (i % 3 == 2) {
                CHECK.due("dip", nib.dip(0), 42);
            }
        }
        CHECK.due("98", nib.dot(12), 98);
        CHECK.due("what is more is lost, but laid", nib.step(0, 1), 7);
        CHECK.due("99", nib.dot(12), 99);
        CHECK.due("it has less by 7", nib.pen(0, 3), 45 - 28 - 7);
        nib.undo();
        CHECK.due("undone: 98", nib.dot(12), 98);
        CHECK.due("undone: ink", nib.pen(0, 3), 45 - 28);
        nib.step(0, 1);
        nib.word(2, 51);
        CHECK.due("laid by a word, if lost too", nib.behind(0, 2, 2), 10);
    }

    private static void puts() {
        BroadNib nib = Check.desk("NP002009P112009");
        CHECK.due("lifted", nib.put(1), 0);
        CHECK.due("who is down", nib.count(5), 1);
        CHECK.due("lifted: lays none", nib.step(1, 2), 0);
        CHECK.due("lifted: moves", nib.pen(1, 0), 11);
        CHECK.due("lifted: no ink", nib.count(3), 0);
        CHECK.due("lifted: has all", nib.pen(1, 3), 45);
        CHECK.due("lifted: the time", nib.count(2), 1);
        CHECK.due("lifted: as thick", nib.thick(1, 2), 4);
        CHECK.due("down", nib.put(1), 1);
        CHECK.due("down: lays", nib.step(1, 2), 4);
        CHECK.due("put takes no time", nib.count(2), 2);
        CHECK.due("put(2)", nib.put(2), BroadNib.UNKNOWN);
        CHECK.due("put(-1)", nib.put(-1), BroadNib.UNKNOWN);
        CHECK.due("acts", nib.count(8), 4);
    }

    private static void dips() {
        BroadNib nib = Check.desk("NP002002P002000");
        CHECK.due("full at first", nib.dip(0), BroadNib.STATE);
        nib.step(0, 0);
        CHECK.due("who is full", nib.count(6), 2);
        CHECK.due("dip", nib.dip(0), 4);
        CHECK.due("full", nib.pen(0, 3), 10);
        CHECK.due("no time", nib.count(2), 1);
        CHECK.due("full again", nib.dip(0), BroadNib.STATE);
        CHECK.due("none is full too", nib.dip(1), BroadNib.STATE);
        CHECK.due("dip(2)", nib.dip(2), BroadNib.UNKNOWN);
        CHECK.due("acts", nib.count(8), 2);
    }

    private static void turns() {
        BroadNib nib = Check.desk("NP002519");
        // (2, -2), (2, 2), (-2, 2), (-2, -2)
        int[] due = {55, 15, 11, 51};
        for (int nibNow : due) {
            CHECK.due("turn", nib.turn(0), nibNow);
            CHECK.due("as pen() tells it", nib.pen(0, 2), nibNow);
        }
        nib = Check.desk("NP000409");
        CHECK.due("(1, -3) is (3, 1)", nib.turn(0), 64);
        CHECK.due("thick by it", nib.thick(0, 0), 1);
        CHECK.due("no time", nib.count(2), 0);
        CHECK.due("turn(1)", nib.turn(1), BroadNib.UNKNOWN);
        CHECK.due("turn(-1)", nib.turn(-1), BroadNib.UNKNOWN);
    }

    private static void blots() {
        BroadNib nib = Check.desk("NS441S112");
        CHECK.due("blot(24)", nib.blot(24), 1);
        CHECK.due("it is clean", nib.dot(24), 0);
        CHECK.due("the other is not", nib.dot(6), 2);
        CHECK.due("blot(24) again", nib.blot(24), BroadNib.STATE);
        CHECK.due("blot(25)", nib.blot(25), BroadNib.UNKNOWN);
        CHECK.due("blot(-1)", nib.blot(-1), BroadNib.UNKNOWN);
        CHECK.due("acts", nib.count(8), 1);
        CHECK.due("no time", nib.count(2), 0);
    }

    private static void undone() {
        BroadNib nib = Check.desk("NP000409S101");
        nib.step(0, 0);
        nib.put(0);
        nib.turn(0);
        nib.dip(0);
        nib.blot(1);
        nib.word(1, 3);
        CHECK.due("before", nib.pen(0, 2), 64);
        CHECK.due("undo blot", nib.undo(), 4);
        CHECK.due("ink is back", nib.dot(1), 4);
        CHECK.due("undo dip", nib.undo(), 3);
        CHECK.due("ink is away", nib.pen(0, 3), 42);
        CHECK.due("undo turn", nib.undo(), 2);
        CHECK.due("its nib", nib.pen(0, 2), 40);
        CHECK.due("undo put", nib.undo(), 1);
        CHECK.due("down", nib.pen(0, 5), 1);
        CHECK.due("time", nib.count(2), 1);
        CHECK.due("undo step", nib.undo(), 0);
        CHECK.due("its dot", nib.pen(0, 0), 0);
        CHECK.due("its ink", nib.pen(0, 3), 45);
        CHECK.due("ink there", nib.dot(1), 1);
        CHECK.due("time is back", nib.count(2), 0);
        CHECK.due("the word stays", nib.count(7), 1);
        CHECK.due("nothing left", nib.undo(), BroadNib.STATE);
    }

    private static void undoneOfSeveral() {
        BroadNib nib = Check.desk("NP002009P112009P222009");
        nib.step(2, 0);
        nib.turn(1);
        nib.step(0, 1);
        nib.undo();
        CHECK.due("pen 0 is back", nib.pen(0, 0), 0);
        CHECK.due("pen 1 is turned", nib.pen(1, 2), 60);
        nib.undo();
        CHECK.due("pen 1 is turned back", nib.pen(1, 2), 0);
        CHECK.due("pen 2 went on", nib.pen(2, 0), 13);
        nib.undo();
        CHECK.due("pen 2 is back", nib.pen(2, 0), 12);
        CHECK.due("all full", nib.count(6), 7);
        CHECK.due("no ink", nib.count(3), 0);
    }

    private static void forgotten() {
        BroadNib nib = Check.desk("NP000409");
        for (int i = 0; i < 20; i++) {
            nib.step(0, i % 2 == 0 ? 0 : 4);
            CHECK.due("acts", nib.count(8), Math.min(i + 1, 14));
        }
        for (int left = 13; left >= 0; left--) {
            CHECK.due("undo", nib.undo(), left);
        }
        CHECK.due("the first six are forgotten", nib.undo(), BroadNib.STATE);
        CHECK.due("their time stays", nib.count(2), 6);
        CHECK.due("their ink stays", nib.pen(0, 3), 45 - 18);
        nib.step(0, 0);
        nib.step(0, 4);
        CHECK.due("a new row", nib.count(8), 2);
        CHECK.due("undo of it", nib.undo(), 1);
        CHECK.due("at its dot", nib.pen(0, 0), 1);
    }
}
