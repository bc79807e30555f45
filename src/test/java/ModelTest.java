import java.util.Random;

/** Asks the class and the model the same calls, drawn from told seeds: all promises, right and wrong inputs. */
public final class ModelTest {
    private static final int RUNS = 2500, CALLS = 400;
    private static final Check CHECK = new Check();

    private final Random random;
    private final BroadNib nib = new BroadNib();
    private final Model model = new Model();
    private final int run;
    /** In such runs pens go to and fro and are dipped, so that dots come to have 99. */
    private final boolean thickly;
    private int laps;

    private ModelTest(int run) {
        this.run = run;
        this.random = new Random(run);
        this.thickly = run % 5 == 0;
    }

    public static void main(String[] args) {
        for (int run = 0; run < RUNS; run++) {
            new ModelTest(run).go();
        }
        CHECK.end();
    }

    private void go() {
        if (random.nextInt(20) > 0) {
            tellDesk(desk());
        }
        for (int i = 0; i < CALLS; i++) {
            call(random.nextInt(thickly ? 60 : 34));
        }
        look();
    }

    private void due(String call, long got, long want) {
        CHECK.due("run " + run + ": " + call, got, want);
    }

    /** Now and then one beyond the bounds. */
    private int number(int most) {
        int one = random.nextInt(40);
        if (one == 0) {
            return random.nextBoolean() ? -1 : Integer.MIN_VALUE;
        }
        if (one == 1) {
            return random.nextBoolean() ? most + 1 : Integer.MAX_VALUE;
        }
        return random.nextInt(most + 1);
    }

    private int pen() {
        return number(3);
    }

    private String desk() {
        StringBuilder text = new StringBuilder("N");
        int pens = random.nextInt(8) == 0 ? 0 : 1 + random.nextInt(4);
        int stains = random.nextInt(5);
        for (int i = 0; i < pens + stains; i++) {
            if (i < pens) {
                text.append('P').append(random.nextInt(5)).append(random.nextInt(5)).append(random.nextInt(4));
                int nib = random.nextInt(49);
                nib = nib == 24 ? 0 : nib;
                text.append(nib / 7).append(nib % 7).append(random.nextInt(10));
            } else {
                text.append('S').append(random.nextInt(5)).append(random.nextInt(5)).append(random.nextInt(10));
            }
        }
        if (random.nextInt(5) == 0) {
            text.setCharAt(random.nextInt(text.length()), (char) random.nextInt(256));
        }
        if (random.nextInt(5) == 0) {
            text.setLength(random.nextInt(text.length()));
        }
        if (random.nextInt(5) == 0) {
            text.append("PS03N".charAt(random.nextInt(5)));
        }
        return text.toString();
    }

    private void tellDesk(String text) {
        due("wipe()", nib.wipe(), model.wipe());
        for (int i = 0; i < text.length(); i++) {
            due("write", nib.write(text.charAt(i)), model.write(text.charAt(i)));
            if (random.nextInt(10) == 0) {
                due("fault of a part of " + text, nib.fault(), model.fault());
            }
        }
        due("fault of " + text, nib.fault(), model.fault());
        due("desk of " + text, nib.desk(), model.desk());
    }

    private long row(int n, int most) {
        long row = 0;
        for (int i = 0; i < n; i++) {
            row = row * 10 + random.nextInt(most + 1);
        }
        int one = random.nextInt(30);
        if (one < 4) {
            return new long[] {-1, Long.MAX_VALUE, Long.MIN_VALUE, row * 10 + 1}[one];
        }
        return one == 4 ? row + 8 : row;
    }

    private void tellWord() {
        int n = number(8);
        long row = row(Math.max(0, Math.min(n, 8)), 7);
        due("word(" + n + ", " + row + ")", nib.word(n, row), model.word(n, row));
    }

    private void tellDoings() {
        int n = 1 + number(3);
        long row = 0;
        for (int i = 0; i < Math.max(0, Math.min(n, 4)); i++) {
            int kind = 1 + random.nextInt(7);
            int middle = kind >= 2 && kind <= 4 ? 0 : random.nextInt(kind == 5 ? 5 : 3);
            int last = kind == 7 ? 0 : kind == 1 ? random.nextInt(8) : kind == 6 ? random.nextInt(10) : random.nextInt(4);
            int told = random.nextInt(15) == 0 ? random.nextInt(1000) : 100 * kind + 10 * middle + last;
            row = row * 1000 + told;
        }
        if (random.nextInt(30) == 0) {
            row = random.nextBoolean() ? -1 : row * 1000 + 1;
        }
        due("judge(" + n + ", " + row + ")", nib.judge(n, row), model.judge(n, row));
    }

    private void call(int kind) {
        if (kind < 10) {
            callOfDesk(kind);
        } else if (kind < 19) {
            callOfActs(kind);
        } else if (kind < 34) {
            callOfWays(kind);
        } else {
            goToAndFro();
        }
    }

    private void callOfDesk(int kind) {
        if (kind == 0 && random.nextInt(15) == 0) {
            tellDesk(desk());
        } else if (kind == 1) {
            int letter = random.nextInt(4) == 0 ? number(255) : "NPS0123456789".charAt(random.nextInt(13));
            due("write(" + letter + ")", nib.write(letter), model.write(letter));
        } else if (kind == 2) {
            due("fault()", nib.fault(), model.fault());
        } else if (kind == 3 && random.nextInt(20) == 0) {
            due("desk()", nib.desk(), model.desk());
        } else if (kind == 4 || kind == 5) {
            tellWord();
        } else if (kind == 6) {
            int pen = pen();
            int what = number(6);
            due("pen(" + pen + ", " + what + ")", nib.pen(pen, what), model.pen(pen, what));
        } else if (kind == 7) {
            int dot = number(24);
            due("dot(" + dot + ")", nib.dot(dot), model.dot(dot));
        } else if (kind == 8) {
            int pen = pen();
            int direction = number(7);
            due("thick(" + pen + ", " + direction + ")", nib.thick(pen, direction), model.thick(pen, direction));
        } else if (kind == 9) {
            int what = number(9);
            due("count(" + what + ")", nib.count(what), model.count(what));
        }
    }

    private void callOfActs(int kind) {
        int pen = pen();
        if (kind == 10) {
            due("put(" + pen + ")", nib.put(pen), model.put(pen));
        } else if (kind == 11) {
            due("dip(" + pen + ")", nib.dip(pen), model.dip(pen));
        } else if (kind == 12) {
            due("turn(" + pen + ")", nib.turn(pen), model.turn(pen));
        } else if (kind == 13) {
            int dot = number(24);
            due("blot(" + dot + ")", nib.blot(dot), model.blot(dot));
        } else if (kind == 14) {
            int times = random.nextInt(10) == 0 ? 16 : 1;
            for (int i = 0; i < times; i++) {
                due("undo()", nib.undo(), model.undo());
            }
        } else {
            int direction = number(7);
            due("step(" + pen + ", " + direction + ")", nib.step(pen, direction), model.step(pen, direction));
        }
    }

    private void callOfWays(int kind) {
        int pen = pen();
        boolean upper = random.nextBoolean();
        if (kind == 19) {
            int n = number(8);
            int what = number(2);
            due("behind(" + pen + ", " + n + ", " + what + ")", nib.behind(pen, n, what), model.behind(pen, n, what));
        } else if (kind == 20) {
            int dot = number(24);
            int what = number(2);
            due("least(" + pen + ", " + dot + ", " + what + ")", nib.least(pen, dot, what), model.least(pen, dot, what));
        } else if (kind == 21) {
            int n = number(4);
            int what = number(1);
            due("rings(" + pen + ", " + n + ", " + what + ")", nib.rings(pen, n, what), model.rings(pen, n, what));
        } else if (kind == 22 || kind == 23) {
            tellDoings();
        } else if (kind == 24) {
            seeOrNot();
        } else if (kind == 25) {
            int what = number(1);
            due("nibs(" + what + ")", nib.nibs(what), model.nibs(what));
        } else if (kind == 26) {
            due("share(" + pen + ", " + upper + ")", nib.share(pen, upper), model.share(pen, upper));
        } else if (kind == 27 || kind == 28) {
            int other = pen();
            int what = number(1);
            due("rests(" + pen + ", " + other + ", " + what + ")", nib.rests(pen, other, what), model.rests(pen, other, what));
        } else if (kind == 29) {
            int v = random.nextInt(3) == 0 ? number(99) : random.nextInt(20);
            int x = number(10);
            due("skipped(" + pen + ", " + v + ", " + x + ", " + upper + ")",
                nib.skipped(pen, v, x, upper), model.skipped(pen, v, x, upper));
        } else if (kind == 30) {
            long seed = random.nextLong();
            due("seed(" + seed + ")", nib.seed(seed), model.seed(seed));
        } else if (kind == 31) {
            int m = number(30);
            due("years(" + m + ")", nib.years(m), model.years(m));
        } else if (kind == 32) {
            int slot = number(1);
            due("keep(" + slot + ")", nib.keep(slot), model.keep(slot));
        } else if (random.nextInt(4) == 0) {
            int slot = number(1);
            due("again(" + slot + ")", nib.again(slot), model.again(slot));
        }
    }

    private void seeOrNot() {
        if (random.nextInt(4) == 0) {
            due("unsee()", nib.unsee(), model.unsee());
            return;
        }
        int direction = number(7);
        int t = number(random.nextBoolean() ? 3 : 6);
        due("see(" + direction + ", " + t + ")", nib.see(direction, t), model.see(direction, t));
    }

    private void goToAndFro() {
        laps++;
        int direction = laps % 2 == 0 ? 0 : 4;
        due("step(0, " + direction + ")", nib.step(0, direction), model.step(0, direction));
        due("dip(0)", nib.dip(0), model.dip(0));
    }

    private void look() {
        for (int what = 0; what <= 9; what++) {
            due("count(" + what + ")", nib.count(what), model.count(what));
        }
        for (int dot = 0; dot < 25; dot++) {
            due("dot(" + dot + ")", nib.dot(dot), model.dot(dot));
        }
        for (int pen = 0; pen < 4; pen++) {
            for (int what = 0; what <= 6; what++) {
                due("pen(" + pen + ", " + what + ")", nib.pen(pen, what), model.pen(pen, what));
            }
        }
    }
}
