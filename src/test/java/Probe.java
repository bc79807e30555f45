import java.util.ArrayList;
import java.util.List;

/** All that calls can tell of an object, by a row of numbers: two objects that are alike have the same row. */
final class Probe {
    private final BroadNib nib;
    private final List<Long> told = new ArrayList<>();

    private Probe(BroadNib nib) {
        this.nib = nib;
    }

    /** The object is used up by it: its acts are undone, its slots gone on from, its text made the desk. */
    static List<Long> useUp(BroadNib nib) {
        Probe probe = new Probe(nib);
        probe.look();
        probe.lookAtDots();
        probe.lookAtRest();
        for (int i = 0; i < 14; i++) {
            int left = nib.undo();
            probe.told.add((long) left);
            if (left >= 0) {
                probe.look();
            }
        }
        for (int slot = 0; slot < 2; slot++) {
            probe.told.add((long) nib.again(slot));
            probe.look();
            probe.lookAtDots();
        }
        probe.told.add((long) nib.desk());
        probe.look();
        return probe.told;
    }

    private void look() {
        for (int what = 0; what < 10; what++) {
            told.add((long) nib.count(what));
        }
        for (int pen = 0; pen < 4; pen++) {
            told.add((long) nib.pen(pen, 0));
            told.add((long) nib.pen(pen, 2));
            told.add((long) nib.pen(pen, 3));
        }
    }

    private void lookAtDots() {
        for (int dot = 0; dot < 25; dot++) {
            told.add((long) nib.dot(dot));
        }
    }

    private void lookAtRest() {
        for (int pen = 0; pen < 4; pen++) {
            told.add((long) nib.pen(pen, 1));
            told.add((long) nib.pen(pen, 4));
            for (int n = 1; n <= 8; n++) {
                told.add((long) nib.behind(pen, n, 0));
            }
        }
        told.add((long) nib.fault());
        told.add((long) nib.nibs(0));
        told.add((long) nib.nibs(1));
        told.add(nib.seed(0));
    }
}
