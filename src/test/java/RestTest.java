/** Promises 30 to 40: judging, the image, acts, tapes. */
public final class RestTest {
    private static final Check check = new Check();
    private static final long NO = TwoBeatsAgo.NO;
    private static final int STEPS = 0, TURNS = 1, TELLS = 2;

    public static void main(String[] args) {
        judge();
        judgeEnds();
        image();
        undo();
        acts();
        actRefused();
        trace();
        taken();
        count();
        tape();
        item();
        read();
        shift();
        check.end("RestTest");
    }

    private static void judge() {
        TwoBeatsAgo x = new TwoBeatsAgo();
        x.dancer(0, 0, 5);
        x.dancer(0, 0, 18);
        Check.hall(x, "left 1 d=0");
        x.pass(6);
        int[] was = {7, 7, 7, 6, 6, 6, 5, 5};
        x.tape(0, 0, 60);
        for (int back = 0; back < 8; back++) {
            x.item(0, 10 + back, was[back]);
            x.item(0, 18 + back, 18);
        }
        check.due("30: all so", x.judge(0, 10), -5);
        check.due("30: from elsewhere", x.judge(0, 9), 0);
        check.due("30: from elsewhere", x.judge(0, 11), 2);
        x.item(0, 25, 19);
        check.due("30: the last", x.judge(0, 10), 17);
        x.item(0, 19, 18 + 128);
        check.due("30: an item below 0", x.judge(0, 10), 11);
        x.item(0, 13, 7);
        check.due("30: the first that is otherwise", x.judge(0, 10), 3);
        check.due("30: no such tape", x.judge(6, 0), -1);
        check.due("30: no such tape", x.judge(-1, 0), -1);
        for (int sort = 1; sort <= 4; sort++) {
            x.tape(1, sort, 16);
            check.due("30: sort " + sort, x.judge(1, 0), -12);
            check.due("30: sort ahead of place", x.judge(1, -1), -12);
        }
    }

    private static void judgeEnds() {
        TwoBeatsAgo x = new TwoBeatsAgo();
        check.due("30: nobody, nothing", x.judge(0, -1), -5);
        x.tape(0, 1, 1);
        check.due("30: nobody, no bytes", x.judge(0, 0), -12);
        x.tape(0, 0, 9);
        check.due("30: nobody", x.judge(0, 10), -5);
        x.dancer(0, 0, 0);
        x.dancer(0, 0, 0);
        check.due("30: nine looked at", x.judge(0, 0), 109);
        check.due("30: one looked at", x.judge(0, 8), 101);
        check.due("30: at the end", x.judge(0, 9), 100);
        check.due("30: beyond the end", x.judge(0, 10), 100);
        check.due("30: far beyond the end", x.judge(0, Integer.MAX_VALUE), 100);
        check.due("30: below 0", x.judge(0, -1), 100);
        check.due("30: far below 0", x.judge(0, Integer.MIN_VALUE), 100);
        check.due("30: holds nothing", x.judge(1, 0), 100);
        x.item(0, 8, 1);
        check.due("30: otherwise ahead of the end", x.judge(0, 0), 10);
    }

    private static void image() {
        TwoBeatsAgo x = new TwoBeatsAgo();
        check.due("31: nobody", x.image(), 0);
        x.dancer(0, 0, 1);
        x.dancer(0, 0, 1);
        check.due("32: back to nobody", x.undo(), 0);
        check.due("32: nobody", x.count(0), 0);
        x.dancer(0, 0, 2);
        check.due("31: one", x.image(), 1);
        check.due("31: nothing changes", x.of(0, 10), 2);
        x.begin(0, 3);
        check.due("31: the newest image", x.undo(), 1);
        check.due("31: the newest image", x.of(0, 10), 2);
    }

    private static void undo() {
        TwoBeatsAgo x = new TwoBeatsAgo();
        check.due("32: there is none", x.undo(), -3);
        x.dancer(6, 4, 23);
        x.dancer(1, 5, 2);
        x.after(0, 1);
        x.row(0, 1, 8);
        x.pass(9);
        Check.hall(x, "left 1 d=1;wide 20;skip 5");
        x.pass(3);
        // What holds of dancer 1 whomever 0 goes after, and a row that is so.
        x.see(1, x.on(11, 11), 11);
        x.see(1, x.on(12, 11), 12);
        x.dance(2);
        x.dance(0);
        x.book(1, x.of(1, 10));
        x.book(0, 98);
        check.due("23: as seen", x.can(0), 3);
        check.due("29: the second row", x.looked(), 1);
        x.act(0, TELLS, 5);
        String image = told(x);
        check.due("31: image()", x.image(), 2);
        check.dueText("31: nothing changes", told(x), image);
        for (int time = 0; time < 2; time++) {
            x.after(0, 0);
            x.row(0, 1, 3);
            x.see(-1, 0, 0);
            x.see(0, 98, 0);
            x.dance(-1);
            x.dance(1);
            x.dance(0);
            x.dance(2);
            x.book(-1, 0);
            x.book(0, 97);
            x.book(1, 97);
            x.book(1, 98);
            x.begin(1, 3);
            x.pass(7);
            x.dancer(2, 2, 3);
            check.due("32: a hall", Check.hall(x, "wide 3;skip 4"), 1 + time);
            x.feed('w');
            x.tape(0, 0, 3 + time);
            x.act(1, STEPS, 5);
            check.due("32: undo()", x.undo(), 2);
            check.dueText("32: all is as it was", told(x), image);
            check.due("32: the ROW", x.row(0, 1, 8), 8);
            check.due("32: HALLS stay", x.count(1), 2 + time);
            check.due("32: THE TEXT stays", x.count(5), 1);
            check.due("32: THE TRACE stays", x.count(6), 1);
            check.due("32: the tape stays", x.read(0, 2 + time), 0);
            check.due("32: the text is read on", Check.hall(x, "x"), -11);
        }
        TwoBeatsAgo bare = new TwoBeatsAgo();
        bare.image();
        Check.hall(bare, "wide 3;skip 4");
        bare.undo();
        check.due("32: no HALL holds", bare.told(1), 24);
        check.due("32: no HALL holds", bare.told(2), 0);
        check.due("32: the number goes on", Check.hall(bare, "wide 4"), 1);
        TwoBeatsAgo kinds = new TwoBeatsAgo();
        kinds.image();
        kinds.dancer(6, 1, 1);
        kinds.row(0, 0, 7);
        kinds.undo();
        kinds.dancer(6, 1, 1);
        check.due("32: a new one's ROW is 0", kinds.row(0, 0, 1), 0);
    }

    /** All of the image that can be asked. */
    private static String told(TwoBeatsAgo x) {
        StringBuilder text = new StringBuilder();
        for (int what = 0; what < 4; what++) {
            text.append(x.told(what)).append(' ');
        }
        for (int dancer = 0; dancer < 6; dancer++) {
            for (int what = 0; what < 18; what++) {
                text.append(x.of(dancer, what)).append(' ');
            }
            text.append(x.can(dancer)).append(' ').append(x.danced(10 + dancer)).append(' ').append(x.on(9, 10 + dancer)).append('\n');
        }
        return text.append(x.count(2)).append(x.count(3)).append(x.count(4)).append(x.looked()).toString();
    }

    /** An act of dancer 2, of a KIND with v 3, with 5. */
    private static void act(int kind, int act, int due, int... bodies) {
        TwoBeatsAgo x = new TwoBeatsAgo();
        x.dancer(0, 9, 0);
        x.dancer(0, 9, 0);
        x.dancer(kind, 3, 0);
        String name = "33: act " + act + " of KIND " + kind;
        check.due(name, x.act(2, act, 5), due);
        check.due(name + ", bodies", x.count(6), bodies.length);
        for (int i = 0; i < bodies.length; i++) {
            check.due(name + ", body " + i, x.trace(i), bodies[i]);
        }
        check.due(name + ", no more", x.trace(bodies.length), -1);
    }

    private static void acts() {
        act(0, STEPS, 7, 10);
        act(0, TURNS, 4, 11, 10);
        act(0, TELLS, 8, 12, 11, 10);
        act(1, STEPS, 7, 10);
        act(1, TURNS, 2, 20, 11, 10);
        act(1, TELLS, 4, 12, 20, 11, 10);
        act(2, STEPS, 17, 30, 10);
        act(2, TURNS, 14, 11, 30, 10);
        act(2, TELLS, 28, 12, 11, 30, 10);
        act(3, STEPS, 7, 10);
        act(3, TURNS, 4, 11, 10);
        act(3, TELLS, 8, 40, 12, 11, 10, 11, 10);
        act(4, STEPS, -7, 50, 10);
        act(4, TURNS, -13, 51, 20, 11, 50, 10);
        act(4, TELLS, -26, 12, 51, 20, 11, 50, 10);
        act(5, STEPS, 17, 30, 10);
        act(5, TURNS, 14, 11, 30, 10);
        act(5, TELLS, 16, 60, 12, 11, 30, 10);
        act(6, STEPS, 4, 71, 10);
        act(6, TURNS, 5, 70, 11, 71, 10, 10);
        act(6, TELLS, 11, 40, 12, 70, 11, 71, 10, 10, 70, 11, 71, 10, 10);
        TwoBeatsAgo x = new TwoBeatsAgo();
        x.dancer(2, 9, 0);
        x.dancer(2, 9, 0);
        check.due("33: wrapping", x.act(1, STEPS, Integer.MAX_VALUE), 2147483646);
        check.due("33: wrapping", x.act(1, TURNS, Integer.MIN_VALUE), 2147483640);
    }

    private static void actRefused() {
        int[][] refused = {{1, 0}, {-1, 0}, {0, 3}, {0, -1}};
        for (int[] call : refused) {
            TwoBeatsAgo x = new TwoBeatsAgo();
            x.dancer(6, 1, 0);
            x.act(0, TELLS, 5);
            check.due("33: no such dancer, act", x.act(call[0], call[1], 5), 0);
            check.due("33: no TRACE then", x.count(6), 0);
            check.due("33: no TRACE then", x.trace(0), -1);
        }
    }

    private static void trace() {
        TwoBeatsAgo x = new TwoBeatsAgo();
        check.due("34: no act", x.trace(0), -1);
        x.dancer(6, 1, 0);
        x.act(0, TELLS, 5);
        check.due("34: the first", x.trace(0), 40);
        check.due("34: the last", x.trace(11), 10);
        check.due("34: beyond", x.trace(12), -1);
        check.due("34: far beyond", x.trace(20), -1);
        check.due("34: below", x.trace(-1), -1);
        x.act(0, STEPS, 5);
        check.due("34: the latest", x.trace(0), 71);
        check.due("34: the latest", x.trace(2), -1);
    }

    private static void taken() {
        int[][] under = {{0, 1, 2, 3, 4, 5, 6}, {1, 4}, {2, 5}, {3, 6}, {4}, {5}, {6}};
        for (int kind = 0; kind < 7; kind++) {
            TwoBeatsAgo x = new TwoBeatsAgo();
            x.dancer(kind, 1, 0);
            for (int k = 0; k < 7; k++) {
                int due = -12;
                for (int one : under[k]) {
                    if (one == kind) due = kind;
                }
                check.due("35: KIND " + kind + " taken for " + k, x.taken(0, k), due);
            }
            check.due("35: no such KIND", x.taken(0, 7), -2);
            check.due("35: no such KIND", x.taken(0, -1), -2);
            check.due("35: BAD ahead of NOTHING", x.taken(1, 7), -2);
            check.due("35: no such dancer", x.taken(1, 0), -11);
            check.due("35: no such dancer", x.taken(-1, 0), -11);
        }
    }

    private static void count() {
        TwoBeatsAgo x = new TwoBeatsAgo();
        x.dancer(6, 1, 0);
        Check.hall(x, "wide 20");
        Check.hall(x, "wide 21");
        for (int i = 0; i < 3; i++) {
            x.see(0, 0, 0);
        }
        for (int i = 0; i < 4; i++) {
            x.dance(0);
        }
        for (int i = 0; i < 5; i++) {
            x.book(0, 0);
        }
        for (int i = 0; i < 6; i++) {
            x.feed('x');
        }
        x.act(0, TELLS, 1);
        int[] due = {1, 2, 3, 4, 5, 6, 12};
        for (int what = 0; what < 7; what++) {
            check.due("36: count(" + what + ")", x.count(what), due[what]);
        }
        check.due("36: count(7)", x.count(7), -2);
        check.due("36: count(-1)", x.count(-1), -2);
    }

    private static void tape() {
        TwoBeatsAgo x = new TwoBeatsAgo();
        for (int sort = 0; sort <= 4; sort++) {
            check.due("37: sort " + sort, x.tape(sort, sort, 60), 1);
            check.due("37: its last item", x.read(sort, 59), 0);
            check.due("37: beyond", x.read(sort, 60), NO);
        }
        check.due("37: no such tape", x.tape(6, 0, 1), -1);
        check.due("37: no such tape", x.tape(-1, 5, 61), -1);
        check.due("37: sort beyond", x.tape(0, 5, 1), -2);
        check.due("37: sort below", x.tape(0, -2, 1), -2);
        check.due("37: n beyond", x.tape(0, 0, 61), -2);
        check.due("37: BAD ahead of SIZE", x.tape(0, 5, -1), -2);
        check.due("37: n below 0", x.tape(0, 0, -1), -14);
        check.due("37: nothing changed", x.read(0, 59), 0);
        x.item(0, 0, 5);
        check.due("37: anew", x.tape(0, 0, 2), 1);
        check.due("37: all 0", x.read(0, 0), 0);
        check.due("37: shorter", x.read(0, 2), NO);
        check.due("37: none long", x.tape(5, 3, 0), 1);
        check.due("37: none long", x.item(5, 0, 1), -13);
        check.due("37: holds nothing", x.tape(0, -1, 61), 1);
        check.due("37: holds nothing", x.read(0, 0), NO);
        check.due("37: holds nothing", x.item(0, 0, 1), -11);
        check.due("37: n does not matter", x.tape(5, -1, -7), 1);
    }

    private static void item() {
        TwoBeatsAgo x = new TwoBeatsAgo();
        long[] values = {0x123456789ABCDEF0L, 200, -129, 40000, 3000000000L, 2, -1, 256};
        long[][] due = {
            {-16, -56, 127, 64, 0, 2, -1, 0},
            {-8464, 200, -129, -25536, 24064, 2, -1, 256},
            {-1698898192, 200, -129, 40000, -1294967296, 2, -1, 256},
            {0x123456789ABCDEF0L, 200, -129, 40000, 3000000000L, 2, -1, 256},
            {1, 1, 1, 1, 1, 1, 1, 1}
        };
        for (int sort = 0; sort <= 4; sort++) {
            x.tape(sort, sort, 3);
            for (int i = 0; i < values.length; i++) {
                check.due("38: item of sort " + sort, x.item(sort, 2, values[i]), 1);
                check.due("38: " + values[i] + " as sort " + sort, x.read(sort, 2), due[sort][i]);
            }
            check.due("38: 0", x.item(sort, 2, 0), 1);
            check.due("38: 0", x.read(sort, 2), 0);
            check.due("38: place beyond", x.item(sort, 3, 1), -13);
            check.due("38: place below", x.item(sort, -1, 1), -13);
        }
        check.due("38: nothing there", x.item(5, -1, 1), -11);
        check.due("38: no such tape", x.item(6, 0, 1), -1);
        check.due("38: no such tape", x.item(-1, 0, 1), -1);
    }

    private static void read() {
        TwoBeatsAgo x = new TwoBeatsAgo();
        x.tape(0, 3, 2);
        x.item(0, 1, 77);
        check.due("39: read(0, 1)", x.read(0, 1), 77);
        check.due("39: read(0, 0)", x.read(0, 0), 0);
        check.due("39: place beyond", x.read(0, 2), NO);
        check.due("39: place below", x.read(0, -1), NO);
        check.due("39: nothing there", x.read(1, 0), NO);
        check.due("39: no such tape", x.read(6, 0), NO);
        check.due("39: no such tape", x.read(-1, 0), NO);
    }

    private static void shift() {
        TwoBeatsAgo x = new TwoBeatsAgo();
        x.tape(0, 2, 5);
        x.tape(1, 2, 3);
        x.tape(2, 3, 5);
        for (int i = 0; i < 5; i++) {
            x.item(0, i, i + 1);
        }
        check.due("40: shift(0, 2, 1, 0, 3)", x.shift(0, 2, 1, 0, 3), 3);
        row(x, 1, 3, 4, 5);
        row(x, 0, 1, 2, 3, 4, 5);
        check.due("40: upward in itself", x.shift(0, 0, 0, 1, 4), 4);
        row(x, 0, 1, 1, 2, 3, 4);
        check.due("40: downward in itself", x.shift(0, 2, 0, 0, 3), 3);
        row(x, 0, 2, 3, 4, 3, 4);
        check.due("40: none", x.shift(0, 5, 1, 3, 0), 0);
        check.due("40: i beyond", x.shift(0, 6, 1, 0, 0), -13);
        check.due("40: j beyond", x.shift(0, 0, 1, 4, 0), -13);
        check.due("40: n below 0", x.shift(0, 0, 1, 0, -1), -13);
        check.due("40: i below 0", x.shift(0, -1, 1, 0, 1), -13);
        check.due("40: j below 0", x.shift(0, 0, 1, -1, 1), -13);
        check.due("40: beyond the one's end", x.shift(0, 3, 1, 0, 3), -13);
        check.due("40: beyond the other's end", x.shift(0, 0, 1, 1, 3), -13);
        check.due("40: far beyond", x.shift(0, 1, 1, 1, Integer.MAX_VALUE), -13);
        check.due("40: far beyond", x.shift(0, Integer.MAX_VALUE, 1, Integer.MAX_VALUE, 1), -13);
        check.due("40: far below", x.shift(0, 1, 1, 1, Integer.MIN_VALUE), -13);
        check.due("40: unlike sorts", x.shift(0, -1, 2, 0, 1), -12);
        check.due("40: nothing there", x.shift(0, -1, 3, 0, 1), -11);
        check.due("40: nothing there", x.shift(3, 0, 0, 0, 1), -11);
        check.due("40: no such tape", x.shift(6, 0, 3, 0, 1), -1);
        check.due("40: no such tape", x.shift(3, 0, -1, 0, 1), -1);
        row(x, 0, 2, 3, 4, 3, 4);
        row(x, 1, 3, 4, 5);
    }

    private static void row(TwoBeatsAgo x, int tape, int... due) {
        for (int i = 0; i < due.length; i++) {
            check.due("40: item " + i + " of " + tape, x.read(tape, i), due[i]);
        }
    }
}
