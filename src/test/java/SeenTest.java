/** Promises 20 to 22: see, unsee, nibs. */
public final class SeenTest {
    private static final Check CHECK = new Check();

    public static void main(String[] args) {
        refusals();
        everyNib();
        contradicted();
        CHECK.end();
    }

    private static void refusals() {
        BroadNib nib = new BroadNib();
        CHECK.due("see(8, 0)", nib.see(8, 0), BroadNib.OUTSIDE);
        CHECK.due("see(-1, 0)", nib.see(-1, 0), BroadNib.OUTSIDE);
        CHECK.due("see(0, 7)", nib.see(0, 7), BroadNib.OUTSIDE);
        CHECK.due("see(0, -1)", nib.see(0, -1), BroadNib.OUTSIDE);
        CHECK.due("nibs(2)", nib.nibs(2), BroadNib.OUTSIDE);
        CHECK.due("nibs(-1)", nib.nibs(-1), BroadNib.OUTSIDE);
        CHECK.due("all nibs", nib.nibs(0), 48);
        CHECK.due("the first of all", nib.nibs(1), 0);
        for (int i = 1; i <= 6; i++) {
            CHECK.due("see " + i, nib.see(7, 6), i);
        }
        CHECK.due("FULL", nib.see(7, 6), BroadNib.FULL);
        CHECK.due("OUTSIDE ahead of FULL", nib.see(8, 6), BroadNib.OUTSIDE);
        CHECK.due("seen", nib.count(9), 6);
        CHECK.due("across the sheet", nib.nibs(0), 2);
        CHECK.due("the first of the two", nib.nibs(1), 0);
        CHECK.due("unsee", nib.unsee(), 6);
        CHECK.due("unsee again", nib.unsee(), 0);
        CHECK.due("all nibs again", nib.nibs(0), 48);
        CHECK.due("see anew", nib.see(0, 6), 1);
    }

    /** A nib and its opposite are all that is as thick both ways along the sides and slantwise. */
    private static void everyNib() {
        for (int a = -3; a <= 3; a++) {
            for (int b = -3; b <= 3; b++) {
                if (a == 0 && b == 0) {
                    continue;
                }
                BroadNib nib = new BroadNib();
                nib.see(4, Math.abs(b));
                nib.see(6, Math.abs(a));
                nib.see(3, Math.abs(a + b));
                CHECK.due("nibs as (" + a + ", " + b + ")", nib.nibs(0), 2);
                int told = 10 * (a + 3) + b + 3;
                CHECK.due("the first as (" + a + ", " + b + ")", nib.nibs(1), Math.min(told, 66 - told));
            }
        }
        BroadNib nib = new BroadNib();
        nib.see(0, 0);
        CHECK.due("b is 0", nib.nibs(0), 6);
        CHECK.due("b is 0: the first", nib.nibs(1), 3);
        nib.see(2, 0);
        CHECK.due("no nib is (0, 0)", nib.nibs(0), 0);
        CHECK.due("no first one", nib.nibs(1), BroadNib.NONE);
    }

    private static void contradicted() {
        BroadNib nib = Check.desk("NP000009");
        nib.see(0, 2);
        nib.see(4, 1);
        CHECK.due("none is so", nib.nibs(0), 0);
        CHECK.due("the first of none", nib.nibs(1), BroadNib.NONE);
        CHECK.due("4 is never so thick along a side", nib.unsee(), 2);
        nib.see(0, 4);
        CHECK.due("none is 4 along a side", nib.nibs(0), 0);
        CHECK.due("no act of it", nib.count(8), 0);
    }
}
