/** Counts the answers that are not as due, and ends a test by them. */
final class Check {
    private int wrong;
    private int asked;

    void due(String call, long got, long want) {
        asked++;
        if (got != want) {
            wrong++;
            System.out.println(call + " answered " + got + ", due is " + want);
        }
    }

    void due(String told, boolean got, boolean want) {
        due(told, got ? 1 : 0, want ? 1 : 0);
    }

    void due(String told, boolean holds) {
        due(told, holds, true);
    }

    void end() {
        System.out.println(wrong == 0 ? "all " + asked + " answers are as due" : wrong + " answers are not as due");
        if (wrong != 0) {
            System.exit(1);
        }
    }

    static void write(BroadNib nib, String text) {
        for (int i = 0; i < text.length(); i++) {
            nib.write(text.charAt(i));
        }
    }

    /** A new object whose desk is the text. */
    static BroadNib desk(String text) {
        BroadNib nib = new BroadNib();
        write(nib, text);
        if (nib.desk() < 0) {
            throw new IllegalArgumentException("no desk: " + text);
        }
        return nib;
    }
}
