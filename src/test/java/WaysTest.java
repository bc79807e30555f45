/** Promises 16 to 19: behind, least, rings, judge. */
public final class WaysTest {
    private static final Check CHECK = new Check();

    public static void main(String[] args) {
        written();
        leastInk();
        leastByStepsAndDirections();
        leastRefused();
        ringsOf();
        judged();
        judgedNot();
        judgedRefused();
        CHECK.end();
    }

    private static void written() {
        // A brush of nib (1, 0): 1 along 0 and 4, 2 along 2; it has 5 ink.
        BroadNib nib = Check.desk("NP222431");
        nib.word(5, 2024);
        int[] dots = {12, 13, 18, 19, 24, 23, 23, 23, 23};
        int[] laid = {0, 1, 3, 4, 5, 5, 5, 5, 5};
        for (int n = 0; n <= 8; n++) {
            CHECK.due("behind(0, " + n + ", 0)", nib.behind(0, n, 0), dots[n]);
            CHECK.due("behind(0, " + n + ", 1)", nib.behind(0, n, 1), 5 - laid[n]);
            CHECK.due("behind(0, " + n + ", 2)", nib.behind(0, n, 2), laid[n]);
        }
        CHECK.due("nothing changed", nib.pen(0, 0) * 1000 + nib.pen(0, 3) * 100 + nib.count(3), 12500);
        nib.word(4, 2);
        CHECK.due("till one can not be", nib.behind(0, 8, 0), 14);
        nib.word(4, 22);
        CHECK.due("0022", nib.behind(0, 4, 0), 24);
        nib.put(0);
        CHECK.due("lifted, it moves", nib.behind(0, 4, 0), 24);
        CHECK.due("lifted, it lays none", nib.behind(0, 4, 2), 0);
        CHECK.due("lifted, it has all", nib.behind(0, 4, 1), 5);
        CHECK.due("behind(1, 9, 9)", nib.behind(1, 9, 9), BroadNib.UNKNOWN);
        CHECK.due("behind(-1, 0, 0)", nib.behind(-1, 0, 0), BroadNib.UNKNOWN);
        CHECK.due("behind(0, 9, 0)", nib.behind(0, 9, 0), BroadNib.OUTSIDE);
        CHECK.due("behind(0, -1, 0)", nib.behind(0, -1, 0), BroadNib.OUTSIDE);
        CHECK.due("behind(0, 0, 3)", nib.behind(0, 0, 3), BroadNib.OUTSIDE);
        CHECK.due("behind(0, 0, -1)", nib.behind(0, 0, -1), BroadNib.OUTSIDE);
    }

    private static void way(BroadNib nib, int dot, int ink, int steps, int direction) {
        CHECK.due("least(0, " + dot + ", 0)", nib.least(0, dot, 0), ink);
        CHECK.due("least(0, " + dot + ", 1)", nib.least(0, dot, 1), steps);
        CHECK.due("least(0, " + dot + ", 2)", nib.least(0, dot, 2), direction);
    }

    private static void leastInk() {
        // A plain pen of nib (1, 1) lays nothing along itself, 1 along 0 and 2, 2 across itself.
        BroadNib nib = Check.desk("NP000440");
        way(nib, 0, 0, 0, BroadNib.NONE);
        way(nib, 24, 0, 4, 1);
        way(nib, 4, 4, 4, 0);
        way(nib, 1, 1, 1, 0);
        way(nib, 5, 1, 1, 2);
        nib = Check.desk("NP200440");
        // 2 by 3 directly or by 2 and 4: the first of equals.
        way(nib, 6, 2, 1, 3);
        nib.put(0);
        way(nib, 6, 2, 1, 3);
        // A pointed pen goes down only once: 1 and 3 and 3, by any of the downward ways.
        nib = Check.desk("NP041009");
        way(nib, 0, 28, 4, 6);
        way(nib, 15, 7, 1, 6);
        way(nib, 19, 10, 4, 0);
        CHECK.due("nothing changed", nib.count(2) + nib.count(3) + nib.count(8), 0);
    }

    private static void leastByStepsAndDirections() {
        // Nib (3, 0): nothing along 0 and 4, 3 along all others: the step up may be any, the first comes first.
        BroadNib nib = Check.desk("NP220630");
        way(nib, 17, 3, 1, 2);
        way(nib, 18, 3, 1, 1);
        way(nib, 19, 3, 2, 0);
        way(nib, 24, 6, 2, 1);
        way(nib, 20, 6, 2, 3);
        // A way round for less: nib (3, 3) is worth many steps along itself.
        nib = Check.desk("NP000663");
        way(nib, 8, 6, 3, 0);
        // Ways of 5 ink by 1 and 2 steps: fewest steps hold. Nib (3, -2) lays 5 along 1, 2 along 0, 3 along 2.
        nib = Check.desk("NP000619");
        way(nib, 6, 5, 1, 1);
        way(nib, 7, 7, 2, 0);
    }

    private static void leastRefused() {
        BroadNib nib = Check.desk("NP000440");
        CHECK.due("least(1, 0, 0)", nib.least(1, 0, 0), BroadNib.UNKNOWN);
        CHECK.due("least(0, 25, 0)", nib.least(0, 25, 0), BroadNib.UNKNOWN);
        CHECK.due("least(0, -1, 9)", nib.least(0, -1, 9), BroadNib.UNKNOWN);
        CHECK.due("least(0, 0, 3)", nib.least(0, 0, 3), BroadNib.OUTSIDE);
        CHECK.due("least(0, 0, -1)", nib.least(0, 0, -1), BroadNib.OUTSIDE);
    }

    private static void ringsOf() {
        BroadNib nib = Check.desk("NP002009P220440P221440");
        CHECK.due("rings(0, 1, 0)", nib.rings(0, 1, 0), 0);
        CHECK.due("rings(0, 1, 1)", nib.rings(0, 1, 1), BroadNib.NONE);
        CHECK.due("rings(0, 2, 0)", nib.rings(0, 2, 0), 3);
        CHECK.due("rings(0, 3, 0)", nib.rings(0, 3, 0), 6);
        CHECK.due("rings(0, 4, 0)", nib.rings(0, 4, 0), 38);
        CHECK.due("rings(1, 2, 0)", nib.rings(1, 2, 0), 8);
        CHECK.due("rings(1, 3, 0)", nib.rings(1, 3, 0), 24);
        CHECK.due("rings(1, 4, 0)", nib.rings(1, 4, 0), 216);
        CHECK.due("rings(0, 2, 1): along itself, a brush", nib.rings(0, 2, 1), 2);
        CHECK.due("rings(1, 2, 1): along itself", nib.rings(1, 2, 1), 0);
        CHECK.due("rings(1, 3, 1): 0, 2, 5", nib.rings(1, 3, 1), 2);
        CHECK.due("rings(2, 2, 1): pressed once", nib.rings(2, 2, 1), 2);
        CHECK.due("rings(2, 3, 1): pressed once", nib.rings(2, 3, 1), 5);
        CHECK.due("rings(3, 0, 9)", nib.rings(3, 0, 9), BroadNib.UNKNOWN);
        CHECK.due("rings(0, 0, 0)", nib.rings(0, 0, 0), BroadNib.OUTSIDE);
        CHECK.due("rings(0, 5, 0)", nib.rings(0, 5, 0), BroadNib.OUTSIDE);
        CHECK.due("rings(0, 1, 2)", nib.rings(0, 1, 2), BroadNib.OUTSIDE);
        CHECK.due("rings(0, 1, -1)", nib.rings(0, 1, -1), BroadNib.OUTSIDE);
    }

    private static void judge(BroadNib nib, int n, long row, int due) {
        CHECK.due("judge(" + n + ", " + row + ")", nib.judge(n, row), due);
    }

    private static void judged() {
        int none = BroadNib.NONE;
        // A brush that lays 4 along 0 and 2, 10 ink; a plain pen at the corner.
        BroadNib nib = Check.desk("NP222002P440639S003S102");
        judge(nib, 1, 100, none);
        judge(nib, 4, 100603602601L, none);
        judge(nib, 2, 100606, none);
        judge(nib, 2, 100607, 1);
        judge(nib, 2, 100532, none);
        judge(nib, 2, 100522, 1);
        judge(nib, 4, 200100610532L, 3);
        judge(nib, 3, 200100609, none);
        judge(nib, 4, 200200100532L, none);
        judge(nib, 3, 100300609, none);
        judge(nib, 1, 300, 0);
        judge(nib, 2, 100300, none);
        judge(nib, 3, 100300300, 2);
        judge(nib, 1, 500, none);
        judge(nib, 1, 510, 0);
        // The plain pen turned from (3, 0) to (0, 3) lays 3 along 4.
        judge(nib, 2, 114534, 1);
        judge(nib, 3, 401114534, none);
        judge(nib, 1, 700, none);
        nib.word(2, 22);
        judge(nib, 1, 700, none);
        judge(nib, 1, 710, 0);
        judge(nib, 3, 700523524, none);
        judge(nib, 2, 700603, 1);
        judge(nib, 2, 700602, none);
        judge(nib, 2, 700700, 1);
        CHECK.due("nothing changed", nib.count(2) + nib.count(8), 0);
        CHECK.due("no ink came", nib.count(3), 5);
        // The second pen can write 4; the first lacks 1 ink by a step along 0.
        nib = Check.desk("NP222439P440639");
        nib.word(1, 4);
        judge(nib, 1, 710, none);
        judge(nib, 2, 100300, none);
    }

    private static void judgedNot() {
        BroadNib nib = Check.desk("NP222002S449S019");
        long[] rows = {0, 1, 99, 108, 109, 110, 201, 209, 210, 301, 310, 401, 410, 545, 550, 554, 589, 610, 701, 710, 800, 900, 999};
        for (long row : rows) {
            judge(nib, 1, row, 0);
        }
        judge(nib, 4, 200200200210L, 3);
        judge(nib, 1, 544, BroadNib.NONE);
        judge(nib, 1, 600, BroadNib.NONE);
        judge(nib, 4, 0, 0);
        judge(nib, 2, 200, 0);
        BroadNib empty = new BroadNib();
        long[] unknown = {100, 200, 300, 400, 500, 600, 700};
        for (long row : unknown) {
            judge(empty, 1, row, 0);
        }
    }

    private static void judgedRefused() {
        BroadNib nib = Check.desk("NP222002");
        judge(nib, 0, 0, BroadNib.OUTSIDE);
        judge(nib, 5, 0, BroadNib.OUTSIDE);
        judge(nib, -1, 0, BroadNib.OUTSIDE);
        judge(nib, 1, -1, BroadNib.OUTSIDE);
        judge(nib, 1, 1000, BroadNib.OUTSIDE);
        judge(nib, 2, 1000000, BroadNib.OUTSIDE);
        judge(nib, 3, 1000000000, BroadNib.OUTSIDE);
        judge(nib, 4, 1000000000000L, BroadNib.OUTSIDE);
        judge(nib, 4, 999999999999L, 0);
        judge(nib, 4, Long.MIN_VALUE, BroadNib.OUTSIDE);
        judge(nib, 4, Long.MAX_VALUE, BroadNib.OUTSIDE);
    }
}
