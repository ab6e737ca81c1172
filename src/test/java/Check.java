/** Counts the calls whose answer is not the one that is due. */
final class Check {
    private int wrong;

    void due(String call, long got, long want) {
        if (got == want) return;
        wrong++;
        System.out.println(call + " answered " + got + ", due is " + want);
    }

    void dueText(String call, String got, String want) {
        if (got.equals(want)) return;
        wrong++;
        System.out.println(call + " answered " + got + ", due is " + want);
    }

    int wrong() {
        return wrong;
    }

    void end(String test) {
        System.out.println(test + ": " + (wrong == 0 ? "all answers are as due" : wrong + " answers are not as due"));
        if (wrong != 0) System.exit(1);
    }

    /** Feeds a text, and has it read as a hall. */
    static int hall(TwoBeatsAgo x, String text) {
        for (int i = 0; i < text.length(); i++) {
            x.feed(text.charAt(i));
        }
        return x.hall();
    }
}
