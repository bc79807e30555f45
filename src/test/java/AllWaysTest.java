/** LEAST and RINGS of every kind and nib at every dot, each against the model: chance may pass by a nib, this does not. */
public final class AllWaysTest {
    private static final Check CHECK = new Check();

    public static void main(String[] args) {
        for (int kind = 0; kind < 4; kind++) {
            for (int nib = 0; nib < 49; nib++) {
                if (nib != 24) {
                    pen("" + kind + nib / 7 + nib % 7);
                }
            }
        }
        CHECK.end();
    }

    private static void pen(String kindAndNib) {
        for (int dot = 0; dot < 25; dot++) {
            String text = "NP" + dot % 5 + dot / 5 + kindAndNib + "1";
            BroadNib nib = Check.desk(text);
            Model model = new Model();
            text.chars().forEach(model::write);
            model.desk();
            leastOf(text, nib, model);
            ringsOf(text, nib, model);
        }
    }

    private static void leastOf(String text, BroadNib nib, Model model) {
        for (int dot = 0; dot < 25; dot++) {
            for (int what = 0; what <= 2; what++) {
                CHECK.due(text + ": least(0, " + dot + ", " + what + ")", nib.least(0, dot, what), model.least(0, dot, what));
            }
        }
    }

    private static void ringsOf(String text, BroadNib nib, Model model) {
        for (int n = 1; n <= 4; n++) {
            for (int what = 0; what <= 1; what++) {
                CHECK.due(text + ": rings(0, " + n + ", " + what + ")", nib.rings(0, n, what), model.rings(0, n, what));
            }
        }
    }
}
