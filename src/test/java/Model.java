import java.util.ArrayList;
import java.util.Arrays;
import java.util.List;
import java.util.PriorityQueue;
import java.util.regex.Matcher;
import java.util.regex.Pattern;

/**
 * The document once more, in its most literal form: every order, every row, every way is gone through one by one,
 * every act keeps the whole desk. ModelTest asks it and the class the same.
 */
final class Model {
    private static final int UNKNOWN = -1, OUTSIDE = -2, STATE = -3, FULL = -4, NONE = -9;
    private static final int[][] WAYS = {{1, 0}, {1, 1}, {0, 1}, {-1, 1}, {-1, 0}, {-1, -1}, {0, -1}, {1, -1}};
    private static final Pattern DESK = Pattern.compile(
        "N(?:P[0-4][0-4][0-3](?:[0-24-6][0-6]|3[0-24-6])[0-9]|S[0-4][0-4][0-9])*");

    private static final class Pen {
        int x, y, kind, a, b, ink, full;
        boolean down;

        Pen twin() {
            Pen twin = new Pen();
            twin.x = x;
            twin.y = y;
            twin.kind = kind;
            twin.a = a;
            twin.b = b;
            twin.ink = ink;
            twin.full = full;
            twin.down = down;
            return twin;
        }

        int thick(int direction) {
            int p = WAYS[direction][0];
            int q = WAYS[direction][1];
            int plain = Math.abs(p * b - q * a);
            if (kind == 0) {
                return plain;
            }
            if (kind == 1) {
                return q >= 0 ? 1 : 1 + Math.abs(a) + Math.abs(b);
            }
            return kind == 2 ? plain + 1 : Math.min(2, plain + 1);
        }

        int nib() {
            return 10 * (a + 3) + (b + 3);
        }

        void turn() {
            int a0 = a;
            int b0 = b;
            a = 0 - b0;
            b = a0;
        }
    }

    private static final class Desk {
        final List<Pen> pens = new ArrayList<>();
        final int[][] ink = new int[5][5];
        int time;

        Desk twin() {
            Desk twin = new Desk();
            for (Pen pen : pens) {
                twin.pens.add(pen.twin());
            }
            for (int x = 0; x < 5; x++) {
                twin.ink[x] = ink[x].clone();
            }
            twin.time = time;
            return twin;
        }

        boolean has(int pen) {
            return pen >= 0 && pen < pens.size();
        }

        boolean canStep(int pen, int direction) {
            int x = pens.get(pen).x + WAYS[direction][0];
            int y = pens.get(pen).y + WAYS[direction][1];
            return x >= 0 && x <= 4 && y >= 0 && y <= 4;
        }

        int step(int pen, int direction) {
            Pen held = pens.get(pen);
            held.x += WAYS[direction][0];
            held.y += WAYS[direction][1];
            time++;
            if (!held.down) {
                return 0;
            }
            int laid = Math.min(held.thick(direction), held.ink);
            held.ink -= laid;
            ink[held.x][held.y] = Math.min(99, ink[held.x][held.y] + laid);
            return laid;
        }

        /** Steps done; laid[0] is the ink laid in them. */
        int write(int pen, List<Integer> word, int[] laid) {
            int done = 0;
            for (int direction : word) {
                if (!canStep(pen, direction)) {
                    break;
                }
                laid[0] += step(pen, direction);
                done++;
            }
            return done;
        }

        int black() {
            int black = 0;
            for (int dot = 0; dot < 25; dot++) {
                black += ink[dot % 5][dot / 5] >= 3 ? 1 : 0;
            }
            return black;
        }

        int inkOnAll() {
            return Arrays.stream(ink).mapToInt(column -> Arrays.stream(column).sum()).sum();
        }
    }

    private String text = "";
    private List<Integer> word = new ArrayList<>();
    private Desk desk = new Desk();
    private final List<Desk> before = new ArrayList<>();
    private final List<int[]> seen = new ArrayList<>();
    private final Desk[] kept = new Desk[2];
    private long seed;

    int write(int letter) {
        if (letter < 0 || letter > 255) {
            return OUTSIDE;
        }
        if (text.length() == 48) {
            return FULL;
        }
        text += (char) letter;
        return text.length();
    }

    int wipe() {
        int length = text.length();
        text = "";
        return length;
    }

    int fault() {
        for (int length = 1; length <= text.length(); length++) {
            String start = text.substring(0, length);
            Matcher matcher = DESK.matcher(start);
            boolean couldBe = matcher.matches() || matcher.hitEnd();
            long pens = start.chars().filter(c -> c == 'P').count();
            long stains = start.chars().filter(c -> c == 'S').count();
            if (!couldBe || pens > 4 || stains > 4) {
                return length - 1;
            }
        }
        return DESK.matcher(text).matches() ? NONE : text.length();
    }

    int desk() {
        if (fault() != NONE) {
            return STATE;
        }
        desk = new Desk();
        Matcher parts = Pattern.compile("P([0-9]{6})|S([0-9]{3})").matcher(text);
        while (parts.find()) {
            if (parts.group(1) != null) {
                int[] figures = parts.group(1).chars().map(c -> c - '0').toArray();
                Pen pen = new Pen();
                pen.x = figures[0];
                pen.y = figures[1];
                pen.kind = figures[2];
                pen.a = figures[3] - 3;
                pen.b = figures[4] - 3;
                pen.full = 5 * figures[5];
                pen.ink = pen.full;
                pen.down = true;
                desk.pens.add(pen);
            } else {
                int[] figures = parts.group(2).chars().map(c -> c - '0').toArray();
                desk.ink[figures[0]][figures[1]] = figures[2];
            }
        }
        before.clear();
        Arrays.fill(kept, null);
        return desk.pens.size();
    }

    private static int[] figures(int n, long row) {
        if (row < 0 || row >= Math.pow(10, n)) {
            return null;
        }
        return n == 0 ? new int[0] : String.format("%0" + n + "d", row).chars().map(c -> c - '0').toArray();
    }

    int word(int n, long row) {
        if (n < 0 || n > 8 || figures(n, row) == null) {
            return OUTSIDE;
        }
        List<Integer> told = new ArrayList<>();
        for (int figure : figures(n, row)) {
            if (figure > 7) {
                return OUTSIDE;
            }
            told.add(figure);
        }
        int had = word.size();
        word = told;
        return had;
    }

    int pen(int pen, int what) {
        if (!desk.has(pen)) {
            return UNKNOWN;
        }
        if (what < 0 || what > 6) {
            return OUTSIDE;
        }
        Pen held = desk.pens.get(pen);
        int stop = desk.twin().write(pen, word, new int[1]);
        int[] answers = {5 * held.y + held.x, held.kind, held.nib(), held.ink, held.full, held.down ? 1 : 0,
            stop == word.size() ? NONE : stop};
        return answers[what];
    }

    int dot(int dot) {
        return dot < 0 || dot > 24 ? UNKNOWN : desk.ink[dot % 5][dot / 5];
    }

    int thick(int pen, int direction) {
        if (!desk.has(pen)) {
            return UNKNOWN;
        }
        return direction < 0 || direction > 7 ? OUTSIDE : desk.pens.get(pen).thick(direction);
    }

    private void act() {
        before.add(desk);
        desk = desk.twin();
        if (before.size() > 14) {
            before.remove(0);
        }
    }

    int step(int pen, int direction) {
        if (!desk.has(pen)) {
            return UNKNOWN;
        }
        if (direction < 0 || direction > 7) {
            return OUTSIDE;
        }
        if (!desk.canStep(pen, direction)) {
            return STATE;
        }
        act();
        return desk.step(pen, direction);
    }

    int put(int pen) {
        if (!desk.has(pen)) {
            return UNKNOWN;
        }
        act();
        Pen held = desk.pens.get(pen);
        held.down = !held.down;
        return held.down ? 1 : 0;
    }

    int dip(int pen) {
        if (!desk.has(pen)) {
            return UNKNOWN;
        }
        if (desk.pens.get(pen).ink == desk.pens.get(pen).full) {
            return STATE;
        }
        act();
        Pen held = desk.pens.get(pen);
        int took = held.full - held.ink;
        held.ink = held.full;
        return took;
    }

    int turn(int pen) {
        if (!desk.has(pen)) {
            return UNKNOWN;
        }
        act();
        desk.pens.get(pen).turn();
        return desk.pens.get(pen).nib();
    }

    int blot(int dot) {
        int had = dot(dot);
        if (had == UNKNOWN) {
            return UNKNOWN;
        }
        if (had == 0) {
            return STATE;
        }
        act();
        desk.ink[dot % 5][dot / 5] = 0;
        return had;
    }

    int undo() {
        if (before.isEmpty()) {
            return STATE;
        }
        desk = before.remove(before.size() - 1);
        return before.size();
    }

    int behind(int pen, int n, int what) {
        if (!desk.has(pen)) {
            return UNKNOWN;
        }
        if (n < 0 || n > 8 || what < 0 || what > 2) {
            return OUTSIDE;
        }
        Desk then = desk.twin();
        int[] laid = new int[1];
        then.write(pen, word.subList(0, Math.min(n, word.size())), laid);
        Pen held = then.pens.get(pen);
        return new int[] {5 * held.y + held.x, held.ink, laid[0]}[what];
    }

    private static final class Way implements Comparable<Way> {
        final int x, y, thick;
        final String directions;

        Way(int x, int y, int thick, String directions) {
            this.x = x;
            this.y = y;
            this.thick = thick;
            this.directions = directions;
        }

        @Override
        public int compareTo(Way other) {
            if (thick != other.thick) {
                return Integer.compare(thick, other.thick);
            }
            if (directions.length() != other.directions.length()) {
                return Integer.compare(directions.length(), other.directions.length());
            }
            return directions.compareTo(other.directions);
        }
    }

    int least(int pen, int dot, int what) {
        if (!desk.has(pen) || dot < 0 || dot > 24) {
            return UNKNOWN;
        }
        if (what < 0 || what > 2) {
            return OUTSIDE;
        }
        Way best = bestWay(desk.pens.get(pen), dot);
        int first = best.directions.isEmpty() ? NONE : best.directions.charAt(0) - '0';
        return new int[] {best.thick, best.directions.length(), first}[what];
    }

    private static Way bestWay(Pen pen, int dot) {
        PriorityQueue<Way> open = new PriorityQueue<>();
        boolean[] reached = new boolean[25];
        open.add(new Way(pen.x, pen.y, 0, ""));
        while (true) {
            Way way = open.remove();
            int at = 5 * way.y + way.x;
            if (at == dot) {
                return way;
            }
            if (reached[at]) {
                continue;
            }
            reached[at] = true;
            for (int direction = 0; direction < 8; direction++) {
                int x = way.x + WAYS[direction][0];
                int y = way.y + WAYS[direction][1];
                if (x >= 0 && x <= 4 && y >= 0 && y <= 4) {
                    open.add(new Way(x, y, way.thick + pen.thick(direction), way.directions + direction));
                }
            }
        }
    }

    int rings(int pen, int n, int what) {
        if (!desk.has(pen)) {
            return UNKNOWN;
        }
        if (n < 1 || n > 4 || what < 0 || what > 1) {
            return OUTSIDE;
        }
        int many = 0;
        int least = Integer.MAX_VALUE;
        for (int row = 0; row < 1 << 3 * n; row++) {
            Pen held = desk.pens.get(pen).twin();
            int thick = 0;
            boolean on = true;
            for (int i = 0; i < n; i++) {
                int direction = row >> 3 * i & 7;
                held.x += WAYS[direction][0];
                held.y += WAYS[direction][1];
                thick += held.thick(direction);
                on &= held.x >= 0 && held.x <= 4 && held.y >= 0 && held.y <= 4;
            }
            if (on && held.x == desk.pens.get(pen).x && held.y == desk.pens.get(pen).y) {
                many++;
                least = Math.min(least, thick);
            }
        }
        return what == 0 ? many : many == 0 ? NONE : least;
    }

    int judge(int n, long row) {
        if (n < 1 || n > 4 || figures(3 * n, row) == null) {
            return OUTSIDE;
        }
        int[] figures = figures(3 * n, row);
        Desk then = desk.twin();
        for (int i = 0; i < n; i++) {
            if (!does(then, figures[3 * i], figures[3 * i + 1], figures[3 * i + 2])) {
                return i;
            }
        }
        return NONE;
    }

    private boolean does(Desk then, int kind, int second, int third) {
        if (kind == 1 && then.has(second) && third <= 7 && then.canStep(second, third)) {
            then.step(second, third);
            return true;
        }
        if (kind == 2 && second == 0 && then.has(third)) {
            then.pens.get(third).down = !then.pens.get(third).down;
            return true;
        }
        if (kind == 3 && second == 0 && then.has(third) && then.pens.get(third).ink < then.pens.get(third).full) {
            then.pens.get(third).ink = then.pens.get(third).full;
            return true;
        }
        if (kind == 4 && second == 0 && then.has(third)) {
            then.pens.get(third).turn();
            return true;
        }
        if (kind == 5) {
            return second <= 4 && third <= 4 && then.ink[second][third] >= 3;
        }
        if (kind == 6) {
            return then.has(second) && then.pens.get(second).ink >= third;
        }
        return kind == 7 && then.has(second) && third == 0 && then.write(second, word, new int[1]) == word.size();
    }

    int see(int direction, int t) {
        if (direction < 0 || direction > 7 || t < 0 || t > 6) {
            return OUTSIDE;
        }
        if (seen.size() == 6) {
            return FULL;
        }
        seen.add(new int[] {direction, t});
        return seen.size();
    }

    int unsee() {
        int many = seen.size();
        seen.clear();
        return many;
    }

    int nibs(int what) {
        if (what < 0 || what > 1) {
            return OUTSIDE;
        }
        List<Integer> nibs = new ArrayList<>();
        for (int told = 0; told <= 66; told++) {
            Pen pen = new Pen();
            pen.a = told / 10 - 3;
            pen.b = told % 10 - 3;
            boolean is = pen.b <= 3 && told != 33;
            for (int[] one : seen) {
                is &= pen.thick(one[0]) == one[1];
            }
            if (is) {
                nibs.add(told);
            }
        }
        return what == 0 ? nibs.size() : nibs.isEmpty() ? NONE : nibs.get(0);
    }

    private static int fraction(long above, long below, boolean upper) {
        for (long divisor = 2; divisor <= below && divisor <= 5; divisor++) {
            while (above % divisor == 0 && below % divisor == 0) {
                above /= divisor;
                below /= divisor;
            }
        }
        return (int) (upper ? above : below);
    }

    int share(int pen, boolean upper) {
        if (!desk.has(pen)) {
            return UNKNOWN;
        }
        int[] sumAndOrders = new int[2];
        orders(new ArrayList<>(), pen, sumAndOrders);
        return fraction(sumAndOrders[0], sumAndOrders[1], upper);
    }

    private void orders(List<Integer> order, int pen, int[] sumAndOrders) {
        if (order.size() == desk.pens.size()) {
            Desk then = desk.twin();
            for (int one : order) {
                int black = then.black();
                then.write(one, word, new int[1]);
                sumAndOrders[0] += one == pen ? then.black() - black : 0;
            }
            sumAndOrders[1]++;
        }
        for (int next = 0; next < desk.pens.size(); next++) {
            if (!order.contains(next)) {
                List<Integer> longer = new ArrayList<>(order);
                longer.add(next);
                orders(longer, pen, sumAndOrders);
            }
        }
    }

    private int gain(int one, int other, int oneWrites, int otherWrites, int whose) {
        Desk then = desk.twin();
        if (oneWrites == 1) {
            then.write(one, word, new int[1]);
        }
        if (otherWrites == 1) {
            then.write(other, word, new int[1]);
        }
        return then.pens.get(whose).ink + 2 * then.black();
    }

    int rests(int one, int other, int what) {
        if (!desk.has(one) || !desk.has(other)) {
            return UNKNOWN;
        }
        if (one == other || what < 0 || what > 1) {
            return OUTSIDE;
        }
        List<Integer> rests = new ArrayList<>();
        for (int i = 0; i <= 1; i++) {
            for (int j = 0; j <= 1; j++) {
                boolean oneRests = gain(one, other, 1 - i, j, one) <= gain(one, other, i, j, one);
                boolean otherRests = gain(one, other, i, 1 - j, other) <= gain(one, other, i, j, other);
                if (oneRests && otherRests) {
                    rests.add(10 * i + j);
                }
            }
        }
        return what == 0 ? rests.size() : rests.isEmpty() ? NONE : rests.get(0);
    }

    int skipped(int pen, int v, int x, boolean upper) {
        if (!desk.has(pen)) {
            return UNKNOWN;
        }
        if (v < 0 || v > 99 || x < 0 || x > 10) {
            return OUTSIDE;
        }
        long above = 0;
        long below = 0;
        for (int set = 0; set < 1 << word.size(); set++) {
            List<Integer> left = new ArrayList<>();
            long weight = 1;
            for (int i = 0; i < word.size(); i++) {
                boolean skip = (set >> i & 1) == 1;
                weight *= skip ? x : 10 - x;
                if (!skip) {
                    left.add(word.get(i));
                }
            }
            int[] laid = new int[1];
            desk.twin().write(pen, left, laid);
            above += laid[0] >= v ? weight : 0;
            below += weight;
        }
        return fraction(above, below, upper);
    }

    long seed(long v) {
        long was = seed;
        seed = v;
        return was;
    }

    int years(int m) {
        if (m < 1 || m > 30) {
            return OUTSIDE;
        }
        Desk then = desk.twin();
        int sum = 0;
        for (int i = 0; i < m; i++) {
            seed = seed * 6364136223846793005L + 1442695040888963407L;
            int kind = (int) Long.remainderUnsigned(seed >>> 33, 48);
            if (kind <= 31) {
                if (then.has(kind / 8) && then.canStep(kind / 8, kind % 8)) {
                    then.step(kind / 8, kind % 8);
                }
            } else if (kind <= 35) {
                does(then, 4, 0, kind - 32);
            } else if (kind <= 39) {
                does(then, 2, 0, kind - 36);
            } else if (kind <= 43) {
                does(then, 3, 0, kind - 40);
            } else {
                int dot = 6 * (kind - 44);
                then.ink[dot % 5][dot / 5] = 0;
            }
            sum += then.inkOnAll();
        }
        return sum;
    }

    int keep(int slot) {
        if (slot < 0 || slot > 1) {
            return UNKNOWN;
        }
        kept[slot] = desk.twin();
        return desk.time;
    }

    int again(int slot) {
        if (slot < 0 || slot > 1) {
            return UNKNOWN;
        }
        if (kept[slot] == null) {
            return STATE;
        }
        desk = kept[slot].twin();
        before.clear();
        return desk.time;
    }

    int count(int what) {
        if (what < 0 || what > 9) {
            return OUTSIDE;
        }
        int black = 0;
        for (int dot = 0; dot < 25; dot++) {
            black |= dot(dot) >= 3 ? 1 << dot : 0;
        }
        int down = 0;
        int full = 0;
        for (int i = 0; i < desk.pens.size(); i++) {
            down |= desk.pens.get(i).down ? 1 << i : 0;
            full |= desk.pens.get(i).ink == desk.pens.get(i).full ? 1 << i : 0;
        }
        return new int[] {text.length(), desk.pens.size(), desk.time, desk.inkOnAll(), black, down, full,
            word.size(), before.size(), seen.size()}[what];
    }
}
