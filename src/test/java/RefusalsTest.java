import java.util.function.Supplier;

/**
 * What each promise refuses, in their order: at the last number that is as told and at the first that is not, which
 * refusal of several comes first, and that what is refused changes nothing.
 */
public final class RefusalsTest {
    private static final Check CHECK = new Check();
    private static final int UNKNOWN = BroadNib.UNKNOWN, OUTSIDE = BroadNib.OUTSIDE, STATE = BroadNib.STATE;
    private static final int FULL = BroadNib.FULL, NONE = BroadNib.NONE;
    private static final int MIN = Integer.MIN_VALUE, MAX = Integer.MAX_VALUE;
    private static final String PENS = "NP220069P001608P442431P043440";
    private static final String DESK = PENS + "S223S112";

    private interface Call {
        long on(BroadNib nib);
    }

    private interface CallBy {
        long on(BroadNib nib, int number);
    }

    public static void main(String[] args) {
        writes();
        wipes();
        desks();
        words();
        wordsByFigures();
        pensAndDots();
        fewerPens();
        directions();
        actsThatCanNotBe();
        behinds();
        leasts();
        rings();
        judges();
        sees();
        nibs();
        shares();
        rests();
        skips();
        years();
        slots();
        counts();
        CHECK.end();
    }

    /** Four pens, five acts, a word, two seen, a seed, slot 0 kept; pens 1 and 3 are full, dot 6 is clean. */
    private static BroadNib made() {
        BroadNib nib = Check.desk(DESK);
        nib.word(3, 26);
        nib.see(0, 3);
        nib.see(2, 3);
        nib.seed(77);
        nib.step(2, 6);
        nib.keep(0);
        nib.step(0, 0);
        nib.turn(1);
        nib.put(3);
        nib.blot(6);
        return nib;
    }

    private static void refused(String told, long due, Supplier<BroadNib> maker, Call call) {
        BroadNib nib = maker.get();
        CHECK.due(told, call.on(nib), due);
        CHECK.due(told + " changes nothing", Probe.useUp(nib).equals(Probe.useUp(maker.get())));
    }

    private static void refused(String told, long due, Call call) {
        refused(told, due, RefusalsTest::made, call);
    }

    private static void answers(String told, long due, Call call) {
        CHECK.due(told, call.on(made()), due);
    }

    /** Numbers from least to most are as told: the call answers none of the refusals; all others are refused. */
    private static void range(String told, int refusal, int least, int most, CallBy call) {
        int[] not = {MIN, MIN + 1, least - 2, least - 1, most + 1, most + 2, MAX - 1, MAX};
        for (int number : not) {
            refused(told + " by " + number, refusal, nib -> call.on(nib, number));
        }
        for (int number = least; number <= most; number++) {
            long got = call.on(made(), number);
            CHECK.due(told + " by " + number + " is answered by " + got, got >= 0 || got == NONE);
        }
    }

    private static BroadNib ofLetters(int letters) {
        BroadNib nib = made();
        for (int i = nib.count(0); i < letters; i++) {
            nib.write('N');
        }
        return nib;
    }

    private static void writes() {
        range("write", OUTSIDE, 0, 255, BroadNib::write);
        for (int letters = 45; letters <= 47; letters++) {
            CHECK.due("write behind " + letters, ofLetters(letters).write(0), letters + 1);
        }
        refused("write behind 48", FULL, () -> ofLetters(48), nib -> nib.write('P'));
        refused("write(0) behind 48", FULL, () -> ofLetters(48), nib -> nib.write(0));
        refused("write(255) behind 48", FULL, () -> ofLetters(48), nib -> nib.write(255));
        refused("write(256) behind 48", OUTSIDE, () -> ofLetters(48), nib -> nib.write(256));
        refused("write(-1) behind 48", OUTSIDE, () -> ofLetters(48), nib -> nib.write(-1));
        BroadNib nib = ofLetters(48);
        nib.wipe();
        CHECK.due("a wiped text has room again", nib.write('N'), 1);
    }

    private static void wipes() {
        BroadNib nib = new BroadNib();
        CHECK.due("wipe of none", nib.wipe(), 0);
        nib.write('N');
        CHECK.due("wipe of one", nib.wipe(), 1);
        CHECK.due("the empty text's fault", nib.fault(), 0);
        CHECK.due("wipe of 47", ofLetters(47).wipe(), 47);
        CHECK.due("wipe of 48", ofLetters(48).wipe(), 48);
        nib = made();
        nib.wipe();
        CHECK.due("letters then", nib.count(0), 0);
        CHECK.due("the desk stays", nib.count(1) * 10 + nib.count(8), 45);
        Check.write(nib, DESK);
        CHECK.due("all but the text stays", Probe.useUp(nib).equals(Probe.useUp(made())));
    }

    private static BroadNib ofText(String text) {
        BroadNib nib = made();
        nib.wipe();
        Check.write(nib, text);
        return nib;
    }

    private static void desks() {
        String[] faulty = {"", "P", "n", "NN", "NP", "NP22006", "NP220339", PENS + "P", PENS + "P220069", DESK + "S"};
        for (String text : faulty) {
            refused("desk of " + text, STATE, () -> ofText(text), BroadNib::desk);
        }
        CHECK.due("desk of N", ofText("N").desk(), 0);
        CHECK.due("desk of one pen", ofText("NP220069").desk(), 1);
        CHECK.due("desk of three pens", ofText(PENS.substring(0, 22)).desk(), 3);
        CHECK.due("desk of four pens", ofText(PENS).desk(), 4);
        BroadNib nib = made();
        nib.keep(1);
        CHECK.due("desk", nib.desk(), 4);
        CHECK.due("the row of acts is empty", nib.count(8), 0);
        CHECK.due("so none can be undone", nib.undo(), STATE);
        CHECK.due("what was kept in 0 is gone", nib.again(0), STATE);
        CHECK.due("what was kept in 1 is gone", nib.again(1), STATE);
        CHECK.due("the text stays", nib.count(0), DESK.length());
        CHECK.due("seen stays", nib.count(9) * 100 + nib.nibs(0), 204);
        CHECK.due("the word stays", nib.count(7) * 100 + nib.behind(0, 2, 0), 318);
        CHECK.due("the seed stays", nib.seed(0), 77);
    }

    private static void words() {
        range("word(n, 0)", OUTSIDE, 0, 8, (nib, n) -> nib.word(n, 0));
        for (int n = 0; n <= 8; n++) {
            int told = n;
            long past = Math.round(Math.pow(10, n));
            long most = 7 * ((past - 1) / 9);
            answers("word(" + n + ", " + most + ")", 3, nib -> nib.word(told, most));
            if (n > 0) {
                refused("word(" + n + ", " + (past - 1) + ")", OUTSIDE, nib -> nib.word(told, past - 1));
            }
            refused("word(" + n + ", " + past + ")", OUTSIDE, nib -> nib.word(told, past));
            refused("word(" + n + ", -1)", OUTSIDE, nib -> nib.word(told, -1));
            refused("word(" + n + ", MIN)", OUTSIDE, nib -> nib.word(told, Long.MIN_VALUE));
            refused("word(" + n + ", MAX)", OUTSIDE, nib -> nib.word(told, Long.MAX_VALUE));
            // What is left of these when only 32 bits are looked at is 0.
            refused("word(" + n + ", 2^32)", OUTSIDE, nib -> nib.word(told, 1L << 32));
        }
        BroadNib nib = new BroadNib();
        CHECK.due("it had none", nib.word(8, 0), 0);
        CHECK.due("it had 8", nib.word(1, 7), 8);
        CHECK.due("it had 1", nib.word(0, 0), 1);
        CHECK.due("it had 0", nib.word(7, 0), 0);
        CHECK.due("it had 7", nib.count(7), 7);
    }

    private static void wordsByFigures() {
        for (int place = 0; place < 8; place++) {
            long unit = Math.round(Math.pow(10, place));
            answers("a 6 with so many behind it: " + place, 3, nib -> nib.word(8, 6 * unit));
            answers("a 7 with so many behind it: " + place, 3, nib -> nib.word(8, 7 * unit));
            refused("an 8 with so many behind it: " + place, OUTSIDE, nib -> nib.word(8, 8 * unit));
            refused("a 9 with so many behind it: " + place, OUTSIDE, nib -> nib.word(8, 9 * unit));
        }
    }

    private static void pensAndDots() {
        range("pen(pen, 0)", UNKNOWN, 0, 3, (nib, pen) -> nib.pen(pen, 0));
        range("pen(0, what)", OUTSIDE, 0, 6, (nib, what) -> nib.pen(0, what));
        range("pen(3, what)", OUTSIDE, 0, 6, (nib, what) -> nib.pen(3, what));
        refused("pen(4, 7)", UNKNOWN, nib -> nib.pen(4, 7));
        refused("pen(-1, -1)", UNKNOWN, nib -> nib.pen(-1, -1));
        range("dot", UNKNOWN, 0, 24, BroadNib::dot);
        range("blot", UNKNOWN, 0, 24, (nib, dot) -> nib.blot(dot) == UNKNOWN ? UNKNOWN : dot);
        range("put", UNKNOWN, 0, 3, BroadNib::put);
        range("turn", UNKNOWN, 0, 3, BroadNib::turn);
    }

    /** Pens are known by how many are told now, not by how many there may be or were. */
    private static void fewerPens() {
        for (int pens = 0; pens <= 4; pens++) {
            String text = PENS.substring(0, 1 + 7 * pens);
            int first = pens;
            Supplier<BroadNib> maker = () -> {
                BroadNib nib = ofText(text);
                nib.desk();
                return nib;
            };
            String of = " of " + pens;
            refused("pen" + of, UNKNOWN, maker, nib -> nib.pen(first, 0));
            refused("thick" + of, UNKNOWN, maker, nib -> nib.thick(first, 0));
            refused("step" + of, UNKNOWN, maker, nib -> nib.step(first, 0));
            refused("put" + of, UNKNOWN, maker, nib -> nib.put(first));
            refused("dip" + of, UNKNOWN, maker, nib -> nib.dip(first));
            refused("turn" + of, UNKNOWN, maker, nib -> nib.turn(first));
            refused("behind" + of, UNKNOWN, maker, nib -> nib.behind(first, 0, 0));
            refused("least" + of, UNKNOWN, maker, nib -> nib.least(first, 0, 0));
            refused("rings" + of, UNKNOWN, maker, nib -> nib.rings(first, 1, 0));
            refused("share" + of, UNKNOWN, maker, nib -> nib.share(first, true));
            refused("rests" + of, UNKNOWN, maker, nib -> nib.rests(first, 0, 0));
            refused("rests, the other" + of, UNKNOWN, maker, nib -> nib.rests(0, first, 0));
            refused("skipped" + of, UNKNOWN, maker, nib -> nib.skipped(first, 0, 0, true));
            CHECK.due("who is down" + of, maker.get().count(5), (1 << pens) - 1);
            CHECK.due("who is full" + of, maker.get().count(6), (1 << pens) - 1);
            if (pens > 0) {
                CHECK.due("the last pen" + of, maker.get().pen(pens - 1, 5), 1);
                CHECK.due("the last pen turned" + of, maker.get().turn(pens - 1) >= 0);
            }
        }
    }

    private static void directions() {
        range("thick(0, direction)", OUTSIDE, 0, 7, (nib, direction) -> nib.thick(0, direction));
        range("thick(pen, 0)", UNKNOWN, 0, 3, (nib, pen) -> nib.thick(pen, 0));
        refused("thick(4, 8)", UNKNOWN, nib -> nib.thick(4, 8));
        refused("thick(-1, -1)", UNKNOWN, nib -> nib.thick(-1, -1));
        // Pen 0 stands at 3, 2: it can go each way.
        range("step(0, direction)", OUTSIDE, 0, 7, (nib, direction) -> nib.step(0, direction));
        refused("step(4, 8)", UNKNOWN, nib -> nib.step(4, 8));
        refused("step(-1, -1)", UNKNOWN, nib -> nib.step(-1, -1));
        refused("step(4, 0)", UNKNOWN, nib -> nib.step(4, 0));
        // Pen 3 stands at 0, 4, where only 0, 6 and 7 are open; another number comes ahead of STATE.
        for (int direction = 1; direction <= 5; direction++) {
            int told = direction;
            refused("step(3, " + direction + ")", STATE, nib -> nib.step(3, told));
        }
        refused("step(3, 8)", OUTSIDE, nib -> nib.step(3, 8));
        refused("step(3, -1)", OUTSIDE, nib -> nib.step(3, -1));
        answers("step(3, 0)", 0, nib -> nib.step(3, 0));
        answers("step(3, 6)", 0, nib -> nib.step(3, 6));
        answers("step(3, 7)", 0, nib -> nib.step(3, 7));
    }

    private static void actsThatCanNotBe() {
        answers("dip(0)", 3, nib -> nib.dip(0));
        refused("dip(1), which is full", STATE, nib -> nib.dip(1));
        answers("dip(2)", 2, nib -> nib.dip(2));
        refused("dip(3), which is full of none", STATE, nib -> nib.dip(3));
        refused("dip(4)", UNKNOWN, nib -> nib.dip(4));
        refused("dip(-1)", UNKNOWN, nib -> nib.dip(-1));
        refused("dip(MIN)", UNKNOWN, nib -> nib.dip(MIN));
        refused("dip(MAX)", UNKNOWN, nib -> nib.dip(MAX));
        answers("blot(12)", 3, nib -> nib.blot(12));
        answers("blot(13)", 3, nib -> nib.blot(13));
        answers("blot(19)", 2, nib -> nib.blot(19));
        int[] clean = {0, 1, 6, 11, 14, 18, 20, 23, 24};
        for (int dot : clean) {
            refused("blot(" + dot + "), which is clean", STATE, nib -> nib.blot(dot));
        }
        Supplier<BroadNib> undone = () -> {
            BroadNib nib = made();
            for (int left = 4; left >= 0; left--) {
                CHECK.due("undo", nib.undo(), left);
            }
            return nib;
        };
        refused("undo of none", STATE, undone, BroadNib::undo);
        refused("undo on a new object", STATE, BroadNib::new, BroadNib::undo);
    }

    private static void behinds() {
        for (int what = 0; what <= 2; what++) {
            int told = what;
            range("behind(0, n, " + what + ")", OUTSIDE, 0, 8, (nib, n) -> nib.behind(0, n, told));
            range("behind(pen, 3, " + what + ")", UNKNOWN, 0, 3, (nib, pen) -> nib.behind(pen, 3, told));
        }
        range("behind(0, 0, what)", OUTSIDE, 0, 2, (nib, what) -> nib.behind(0, 0, what));
        range("behind(3, 8, what)", OUTSIDE, 0, 2, (nib, what) -> nib.behind(3, 8, what));
        refused("behind(4, 9, 3)", UNKNOWN, nib -> nib.behind(4, 9, 3));
        refused("behind(-1, -1, -1)", UNKNOWN, nib -> nib.behind(-1, -1, -1));
        refused("behind(4, 0, 3)", UNKNOWN, nib -> nib.behind(4, 0, 3));
        refused("behind(4, 9, 0)", UNKNOWN, nib -> nib.behind(4, 9, 0));
    }

    private static void leasts() {
        for (int what = 0; what <= 2; what++) {
            int told = what;
            range("least(0, dot, " + what + ")", UNKNOWN, 0, 24, (nib, dot) -> nib.least(0, dot, told));
            range("least(pen, 7, " + what + ")", UNKNOWN, 0, 3, (nib, pen) -> nib.least(pen, 7, told));
        }
        range("least(0, 0, what)", OUTSIDE, 0, 2, (nib, what) -> nib.least(0, 0, what));
        range("least(0, 13, what), which is its own", OUTSIDE, 0, 2, (nib, what) -> nib.least(0, 13, what));
        refused("least(4, 24, 3)", UNKNOWN, nib -> nib.least(4, 24, 3));
        refused("least(-1, 25, 0)", UNKNOWN, nib -> nib.least(-1, 25, 0));
        refused("least(3, 25, 3)", UNKNOWN, nib -> nib.least(3, 25, 3));
        refused("least(3, -1, -1)", UNKNOWN, nib -> nib.least(3, -1, -1));
    }

    private static void rings() {
        range("rings(0, n, 0)", OUTSIDE, 1, 4, (nib, n) -> nib.rings(0, n, 0));
        range("rings(0, n, 1)", OUTSIDE, 1, 4, (nib, n) -> nib.rings(0, n, 1));
        range("rings(pen, 1, 0)", UNKNOWN, 0, 3, (nib, pen) -> nib.rings(pen, 1, 0));
        range("rings(pen, 4, 1)", UNKNOWN, 0, 3, (nib, pen) -> nib.rings(pen, 4, 1));
        range("rings(0, 1, what)", OUTSIDE, 0, 1, (nib, what) -> nib.rings(0, 1, what));
        range("rings(0, 4, what)", OUTSIDE, 0, 1, (nib, what) -> nib.rings(0, 4, what));
        refused("rings(4, 0, 2)", UNKNOWN, nib -> nib.rings(4, 0, 2));
        refused("rings(-1, 5, -1)", UNKNOWN, nib -> nib.rings(-1, 5, -1));
    }

    private static void judges() {
        range("judge(n, 0)", OUTSIDE, 1, 4, (nib, n) -> nib.judge(n, 0));
        for (int n = 1; n <= 4; n++) {
            int told = n;
            long past = Math.round(Math.pow(10, 3 * n));
            // The greatest row is of 9, 9, 9, which is no doing: its first can not be.
            answers("judge(" + n + ", " + (past - 1) + ")", 0, nib -> nib.judge(told, past - 1));
            refused("judge(" + n + ", " + past + ")", OUTSIDE, nib -> nib.judge(told, past));
            refused("judge(" + n + ", " + (past + 1) + ")", OUTSIDE, nib -> nib.judge(told, past + 1));
            refused("judge(" + n + ", -1)", OUTSIDE, nib -> nib.judge(told, -1));
            refused("judge(" + n + ", MIN)", OUTSIDE, nib -> nib.judge(told, Long.MIN_VALUE));
            refused("judge(" + n + ", MAX)", OUTSIDE, nib -> nib.judge(told, Long.MAX_VALUE));
            long good = 600 * ((past - 1) / 999);
            answers("judge(" + n + ", " + good + ")", NONE, nib -> nib.judge(told, good));
        }
        refused("judge(1, 2^32 + 600)", OUTSIDE, nib -> nib.judge(1, (1L << 32) + 600));
        refused("judge(0, 600)", OUTSIDE, nib -> nib.judge(0, 600));
        refused("judge(5, 600)", OUTSIDE, nib -> nib.judge(5, 600));
    }

    private static BroadNib ofSeen(int many) {
        BroadNib nib = made();
        for (int i = nib.count(9); i < many; i++) {
            nib.see(0, 3);
        }
        return nib;
    }

    private static void sees() {
        range("see(direction, 0)", OUTSIDE, 0, 7, (nib, direction) -> nib.see(direction, 0));
        range("see(direction, 6)", OUTSIDE, 0, 7, (nib, direction) -> nib.see(direction, 6));
        range("see(0, t)", OUTSIDE, 0, 6, (nib, t) -> nib.see(0, t));
        range("see(7, t)", OUTSIDE, 0, 6, (nib, t) -> nib.see(7, t));
        for (int many = 2; many <= 5; many++) {
            CHECK.due("see behind " + many, ofSeen(many).see(7, 6), many + 1);
        }
        refused("see behind 6", FULL, () -> ofSeen(6), nib -> nib.see(7, 6));
        refused("see(8, 0) behind 6", OUTSIDE, () -> ofSeen(6), nib -> nib.see(8, 0));
        refused("see(-1, 0) behind 6", OUTSIDE, () -> ofSeen(6), nib -> nib.see(-1, 0));
        refused("see(0, 7) behind 6", OUTSIDE, () -> ofSeen(6), nib -> nib.see(0, 7));
        refused("see(0, -1) behind 6", OUTSIDE, () -> ofSeen(6), nib -> nib.see(0, -1));
        CHECK.due("unsee of 6", ofSeen(6).unsee(), 6);
        CHECK.due("unsee of 5", ofSeen(5).unsee(), 5);
        BroadNib nib = ofSeen(6);
        nib.unsee();
        CHECK.due("unsee of none", nib.unsee(), 0);
        CHECK.due("nothing is seen", nib.count(9) * 100 + nib.nibs(0), 48);
        CHECK.due("there is room again", nib.see(0, 3), 1);
        CHECK.due("a new object's unsee", new BroadNib().unsee(), 0);
    }

    private static void nibs() {
        range("nibs", OUTSIDE, 0, 1, BroadNib::nibs);
    }

    private static void shares() {
        range("share(pen, true)", UNKNOWN, 0, 3, (nib, pen) -> nib.share(pen, true));
        range("share(pen, false)", UNKNOWN, 0, 3, (nib, pen) -> nib.share(pen, false));
    }

    private static void rests() {
        range("rests(0, other, 0)", UNKNOWN, 0, 3, (nib, other) -> other == 0 ? 0 : nib.rests(0, other, 0));
        range("rests(one, 3, 1)", UNKNOWN, 0, 3, (nib, one) -> one == 3 ? 0 : nib.rests(one, 3, 1));
        range("rests(0, 1, what)", OUTSIDE, 0, 1, (nib, what) -> nib.rests(0, 1, what));
        range("rests(3, 0, what)", OUTSIDE, 0, 1, (nib, what) -> nib.rests(3, 0, what));
        for (int pen = 0; pen <= 3; pen++) {
            int told = pen;
            refused("rests(" + pen + ", " + pen + ", 0)", OUTSIDE, nib -> nib.rests(told, told, 0));
            refused("rests(" + pen + ", " + pen + ", 1)", OUTSIDE, nib -> nib.rests(told, told, 1));
            refused("rests(" + pen + ", " + pen + ", 2)", OUTSIDE, nib -> nib.rests(told, told, 2));
        }
        refused("rests(4, 4, 0)", UNKNOWN, nib -> nib.rests(4, 4, 0));
        refused("rests(-1, -1, 2)", UNKNOWN, nib -> nib.rests(-1, -1, 2));
        refused("rests(0, 4, 2)", UNKNOWN, nib -> nib.rests(0, 4, 2));
        refused("rests(4, 0, -1)", UNKNOWN, nib -> nib.rests(4, 0, -1));
    }

    private static void skips() {
        boolean[] both = {true, false};
        for (boolean upper : both) {
            range("skipped(pen, 1, 5, " + upper + ")", UNKNOWN, 0, 3, (nib, pen) -> nib.skipped(pen, 1, 5, upper));
            range("skipped(0, v, 5, " + upper + ")", OUTSIDE, 0, 99, (nib, v) -> nib.skipped(0, v, 5, upper));
            range("skipped(0, 1, x, " + upper + ")", OUTSIDE, 0, 10, (nib, x) -> nib.skipped(0, 1, x, upper));
            refused("skipped(4, 100, 11, " + upper + ")", UNKNOWN, nib -> nib.skipped(4, 100, 11, upper));
            refused("skipped(-1, -1, -1, " + upper + ")", UNKNOWN, nib -> nib.skipped(-1, -1, -1, upper));
            refused("skipped(0, 100, 10, " + upper + ")", OUTSIDE, nib -> nib.skipped(0, 100, 10, upper));
            refused("skipped(0, 99, 11, " + upper + ")", OUTSIDE, nib -> nib.skipped(0, 99, 11, upper));
        }
    }

    private static void years() {
        range("years", OUTSIDE, 1, 30, BroadNib::years);
        range("years on a new object", OUTSIDE, 1, 30, (nib, m) -> new BroadNib().years(m));
    }

    private static void slots() {
        range("keep", UNKNOWN, 0, 1, BroadNib::keep);
        range("again of what is kept", UNKNOWN, 0, 1, (nib, slot) -> {
            if (slot == 1) {
                nib.keep(1);
            }
            return nib.again(slot);
        });
        answers("keep(0)", 2, nib -> nib.keep(0));
        answers("keep(1)", 2, nib -> nib.keep(1));
        answers("again(0)", 1, nib -> nib.again(0));
        refused("again(1), not kept", STATE, nib -> nib.again(1));
        refused("again(0) on a new object", STATE, BroadNib::new, nib -> nib.again(0));
        refused("again(1) on a new object", STATE, BroadNib::new, nib -> nib.again(1));
        refused("again(2) on a new object", UNKNOWN, BroadNib::new, nib -> nib.again(2));
        refused("again(-1) on a new object", UNKNOWN, BroadNib::new, nib -> nib.again(-1));
    }

    private static void counts() {
        range("count", OUTSIDE, 0, 9, BroadNib::count);
        int[] due = {DESK.length(), 4, 2, 3 + 2 + 3, 1 << 12 | 1 << 13, 0b0111, 0b1010, 3, 5, 2};
        for (int what = 0; what <= 9; what++) {
            int told = what;
            answers("count(" + what + ")", due[what], nib -> nib.count(told));
        }
    }
}
