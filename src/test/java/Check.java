/** Counts the answers that are not as due. */
final class Check {
    private int wrong = 0;
    private int asked = 0;

    void due(String call, long got, long want) {
        asked++;
        if (got != want) {
            wrong++;
            System.out.println(call + " answered " + got + ", due is " + want);
        }
    }

    void due(String call, boolean got, boolean want) {
        due(call, got ? 1 : 0, want ? 1 : 0);
    }

    /** The answer of look, or -1000 if it throws what the document names. */
    static int look(AlarmBoxes x, int box, int what) {
        try {
            return x.look(box, what);
        } catch (java.util.NoSuchElementException e) {
            return -1000;
        }
    }

    static final int THROWS = -1000;

    /** Feeds a text; signs beyond 24 go in further calls. */
    static int feed(AlarmBoxes x, String text) {
        int held = x.count(9);
        for (int start = 0; start < text.length(); start += 24) {
            held = x.feed(bytes(text, start), bytes(text, start + 8), bytes(text, start + 16));
        }
        return held;
    }

    static long bytes(String text, int start) {
        long packed = 0;
        for (int i = start; i < start + 8; i++) {
            packed = packed << 8 | (i < text.length() ? text.charAt(i) & 255 : 0);
        }
        return packed;
    }

    static int cards(AlarmBoxes x, String text) {
        feed(x, text);
        return x.cards();
    }

    /** What a text on a new tape of letters is read as (kind 0: no fault), and that the tape is empty then. */
    void fault(String text, int kind, int place) {
        AlarmBoxes x = new AlarmBoxes();
        due("15 '" + text + "'", cards(x, text), kind == 0 ? 0 : kind + 16 * place);
        due("15 behind '" + text + "' the tape is empty", x.count(9), 0);
    }

    /** Lets ticks pass, in as many calls as they need. */
    static void pass(AlarmBoxes x, int ticks) {
        for (int left = ticks; left > 0; left -= 5000) {
            x.ticks(Math.min(left, 5000));
        }
    }

    void end() {
        System.out.println(wrong == 0 ? asked + " answers, all as due" : wrong + " of " + asked + " answers are not as due");
        if (wrong != 0) {
            System.exit(1);
        }
    }
}
