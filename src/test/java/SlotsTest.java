/** Promises 28 to 30: keep, again, count. */
public final class SlotsTest {
    private static final Check CHECK = new Check();

    public static void main(String[] args) {
        keptAndGoneOnFrom();
        slotsRefused();
        counts();
        CHECK.end();
    }

    private static void keptAndGoneOnFrom() {
        BroadNib nib = Check.desk("NP002409P222439S441");
        nib.step(0, 0);
        nib.step(1, 2);
        CHECK.due("keep(0)", nib.keep(0), 2);
        CHECK.due("the row stays", nib.count(8), 2);
        nib.turn(0);
        nib.put(1);
        nib.dip(0);
        nib.step(0, 2);
        nib.blot(24);
        CHECK.due("keep(1)", nib.keep(1), 3);
        nib.word(1, 5);
        nib.seed(4);
        nib.see(1, 1);
        CHECK.due("again(0)", nib.again(0), 2);
        CHECK.due("where", nib.pen(0, 0), 1);
        CHECK.due("nib", nib.pen(0, 2), 40);
        CHECK.due("ink", nib.pen(0, 3), 41);
        CHECK.due("down", nib.count(5), 3);
        CHECK.due("ink on dots", nib.count(3), 1 + 4 + 2);
        CHECK.due("stain", nib.dot(24), 1);
        CHECK.due("time", nib.count(2), 2);
        CHECK.due("the row is empty", nib.count(8), 0);
        CHECK.due("nothing to undo", nib.undo(), BroadNib.STATE);
        CHECK.due("word, seed, seen stay", nib.count(7) * 100 + nib.seed(4) * 10 + nib.count(9), 141);
        nib.step(0, 2);
        CHECK.due("again(1)", nib.again(1), 3);
        CHECK.due("lifted", nib.count(5), 1);
        CHECK.due("where then", nib.pen(0, 0), 6);
        CHECK.due("nib then", nib.pen(0, 2), 64);
        CHECK.due("again(0), once more", nib.again(0), 2);
        CHECK.due("as it was kept", nib.pen(0, 3), 41);
        CHECK.due("keep(1), over it", nib.keep(1), 2);
        nib.step(0, 2);
        CHECK.due("again(1)", nib.again(1), 2);
        CHECK.due("as it was kept last", nib.count(5), 3);
    }

    private static void slotsRefused() {
        BroadNib nib = Check.desk("NP002409");
        CHECK.due("keep(2)", nib.keep(2), BroadNib.UNKNOWN);
        CHECK.due("keep(-1)", nib.keep(-1), BroadNib.UNKNOWN);
        CHECK.due("again(2)", nib.again(2), BroadNib.UNKNOWN);
        CHECK.due("again(-1)", nib.again(-1), BroadNib.UNKNOWN);
        CHECK.due("again(0)", nib.again(0), BroadNib.STATE);
        nib.step(0, 0);
        CHECK.due("again(1)", nib.again(1), BroadNib.STATE);
        CHECK.due("refused: the row stays", nib.count(8), 1);
        nib.keep(1);
        CHECK.due("the other one is not kept", nib.again(0), BroadNib.STATE);
        CHECK.due("desk", nib.desk(), 1);
        CHECK.due("gone by the desk", nib.again(1), BroadNib.STATE);
        BroadNib empty = new BroadNib();
        CHECK.due("an empty desk can be kept", empty.keep(1), 0);
        CHECK.due("and gone on from", empty.again(1), 0);
    }

    private static void counts() {
        BroadNib nib = Check.desk("NP002409P222430P003039S443S042S009");
        nib.word(2, 11);
        nib.see(1, 1);
        nib.see(2, 1);
        CHECK.due("letters", nib.count(0), 34);
        CHECK.due("pens", nib.count(1), 3);
        CHECK.due("time", nib.count(2), 0);
        CHECK.due("ink", nib.count(3), 14);
        CHECK.due("black", nib.count(4), 1 << 24 | 1);
        CHECK.due("down", nib.count(5), 7);
        CHECK.due("full", nib.count(6), 7);
        CHECK.due("word", nib.count(7), 2);
        CHECK.due("acts", nib.count(8), 0);
        CHECK.due("seen", nib.count(9), 2);
        nib.put(0);
        nib.step(1, 2);
        nib.step(2, 2);
        CHECK.due("down, one lifted", nib.count(5), 6);
        CHECK.due("full, one that wrote, one of none", nib.count(6), 3);
        CHECK.due("time of two steps", nib.count(2), 2);
        CHECK.due("acts of all kinds", nib.count(8), 3);
        CHECK.due("count(10)", nib.count(10), BroadNib.OUTSIDE);
        CHECK.due("count(-1)", nib.count(-1), BroadNib.OUTSIDE);
    }
}
