/** Promises 1 to 9: dancers, halls. */
public final class HallsTest {
    private static final Check check = new Check();

    public static void main(String[] args) {
        newObject();
        dancer();
        ofItsParts();
        ofStep();
        ofGoes();
        after();
        begin();
        row();
        feed();
        hallHolds();
        hallFaults();
        hallFull();
        told();
        check.end("HallsTest");
    }

    private static void newObject() {
        TwoBeatsAgo x = new TwoBeatsAgo();
        for (int what = 0; what <= 6; what++) {
            check.due("1: count(" + what + ")", x.count(what), 0);
        }
        check.due("1: told(0)", x.told(0), 0);
        check.due("1: told(1)", x.told(1), 24);
        check.due("1: told(2)", x.told(2), 0);
        check.due("1: told(3)", x.told(3), 0);
        check.due("1: of(0, 0)", x.of(0, 0), -1001);
        check.due("1: trace(0)", x.trace(0), -1);
        check.due("1: read(0, 0)", x.read(0, 0), TwoBeatsAgo.NO);
        check.due("1: undo()", x.undo(), -3);
    }

    private static void dancer() {
        TwoBeatsAgo x = new TwoBeatsAgo();
        check.due("2: dancer(0, 0, 0)", x.dancer(0, 0, 0), 0);
        check.due("2: dancer(6, 9, 23)", x.dancer(6, 9, 23), 1);
        check.due("2: kind below", x.dancer(-1, 0, 0), -1);
        check.due("2: kind beyond", x.dancer(7, 0, 0), -1);
        check.due("2: NONE ahead of BAD", x.dancer(7, 10, 24), -1);
        check.due("2: v below", x.dancer(0, -1, 0), -2);
        check.due("2: v beyond", x.dancer(0, 10, 0), -2);
        check.due("2: place below", x.dancer(0, 0, -1), -2);
        check.due("2: place beyond", x.dancer(0, 0, 24), -2);
        check.due("2: two came", x.count(0), 2);
        check.due("2: it begins there", x.of(1, 10), 23);
        check.due("2: and was there", x.of(1, 17), 23);
        check.due("2: it goes after itself", x.of(1, 2), 1);
        Check.hall(x, "wide 50");
        check.due("2: place beyond a wider ring", x.dancer(0, 0, 50), -2);
        for (int number = 2; number < 6; number++) {
            check.due("2: dancer(" + number + ", 1, 49)", x.dancer(number, 1, 49), number);
        }
        check.due("2: FULL", x.dancer(0, 0, 0), -4);
        check.due("2: NONE ahead of FULL", x.dancer(7, 0, 0), -1);
        check.due("2: BAD ahead of FULL", x.dancer(0, 0, 50), -2);
        check.due("2: six stay", x.count(0), 6);
    }

    private static void ofItsParts() {
        TwoBeatsAgo x = new TwoBeatsAgo();
        x.dancer(3, 7, 11);
        x.dancer(0, 2, 5);
        x.after(0, 1);
        Check.hall(x, "left 1 d=1");
        x.pass(6);
        check.due("3: KIND", x.of(0, 0), 3);
        check.due("3: v", x.of(0, 1), 7);
        check.due("3: AFTER", x.of(0, 2), 1);
        // Dancer 1 goes each beat to one left of where it was two beats ago: a place in three beats.
        int[] was = {7, 7, 7, 6, 6, 6, 5, 5};
        for (int back = 0; back < 8; back++) {
            check.due("3: WAS " + back, x.of(1, 10 + back), was[back]);
        }
        check.due("3: no such part", x.of(0, 5), -1001);
        check.due("3: no such part", x.of(0, 9), -1001);
        check.due("3: no such part", x.of(0, 18), -1001);
        check.due("3: no such part", x.of(0, -1), -1001);
        check.due("3: no such dancer", x.of(2, 0), -1001);
        check.due("3: no such dancer", x.of(-1, 0), -1001);
    }

    /** Dancer 0: kind 0, v 3, at 12, after itself. Dancer 1: kind 6, v 7, at 4, after 0. BEAT 25. */
    private static void steps(String hall, int first, int second) {
        TwoBeatsAgo x = new TwoBeatsAgo();
        x.dancer(0, 3, 12);
        x.dancer(6, 7, 4);
        x.pass(25);
        x.begin(1, 4);
        x.after(1, 0);
        check.due("3: " + hall, Check.hall(x, hall), 0);
        check.due("3: STEP of 0 by " + hall, x.of(0, 3), first);
        check.due("3: STEP of 1 by " + hall, x.of(1, 3), second);
    }

    private static void ofStep() {
        steps("wide 30", 0, 0);
        steps("left 1 d=1", 0, 1);
        steps("left 1 d<1", 1, 0);
        steps("left 1 d>0", 0, 1);
        steps("left 1 k=6", 0, 1);
        steps("left 1 k<6", 1, 0);
        steps("left 1 v=3", 1, 0);
        steps("left 1 v>3", 0, 1);
        steps("left 1 p=12", 1, 0);
        steps("left 1 p<12", 0, 1);
        steps("left 1 a=0", 1, 1);
        steps("left 1 a=1", 0, 0);
        steps("left 1 b=5", 1, 1);
        steps("left 1 b>5", 0, 0);
        steps("left 5 d=0;right 7 d<2", -2, -7);
        steps("left 9 d=0;left 90 d=0;right 98 d=0", 1, 0);
        steps("left 1 d=1|d=0&v=9", 0, 1);
        steps("left 1 !d=0&v=3", 0, 0);
        steps("left 1 !(d=0&v=3)", 0, 1);
        steps("left 1 (d=1|d=0)&v=3", 1, 0);
        steps("left 1 v=3&(d=1|d=0)", 1, 0);
        steps("left 1 d=5|d=6|d=1|d=9", 0, 1);
        steps("left 1 d<5&k=6&v=7&p=4", 0, 1);
        steps("left 1 !!!!d=1", 0, 1);
        steps("left 1 !!!d=1", 1, 0);
        steps("left 1 !(!(d=1|d=0))|b=0", 1, 1);
        steps("left 1 d=1&!k=6|!d=1&!k=6", 1, 0);
    }

    private static void ofGoes() {
        TwoBeatsAgo x = new TwoBeatsAgo();
        x.dancer(0, 0, 5);
        Check.hall(x, "left 1 d=0");
        x.pass(6);
        // Dancer 0 was at 7, 7, 7, 6: two beats ago at 7, three ago at 6.
        x.dancer(1, 0, 10);
        x.dancer(2, 0, 10);
        x.dancer(3, 3, 10);
        x.dancer(4, 0, 20);
        x.dancer(5, 0, 10);
        for (int dancer = 1; dancer < 6; dancer++) {
            x.after(dancer, 0);
        }
        check.due("3: DANCER goes", x.of(0, 4), 8);
        check.due("3: LATE goes", x.of(1, 4), 6);
        check.due("3: MIRRORED goes", x.of(2, 4), 16);
        check.due("3: LAZY goes at BEAT 6 with v 3", x.of(3, 4), 7);
        check.due("3: HALTING goes half of 10 upward", x.of(4, 4), 1);
        check.due("3: TURNING goes at BEAT 6", x.of(5, 4), 16);
        x.pass(1);
        // Now dancer 0 was at 8, 7, 7, 7, 6; dancer 5 goes on from BEAT 7.
        check.due("3: LATE goes", x.of(1, 4), 7);
        check.due("3: TURNING goes at BEAT 7", x.of(5, 4), 17);
        x.pass(1);
        check.due("3: TURNING goes at BEAT 8", x.of(5, 4), 18);
        lazyGoes();
        toldGoes();
        stepsGo();
    }

    private static void lazyGoes() {
        TwoBeatsAgo x = new TwoBeatsAgo();
        x.dancer(3, 1, 10);
        x.dancer(0, 0, 2);
        x.after(0, 1);
        check.due("3: LAZY at BEAT 0", x.of(0, 4), 10);
        x.pass(1);
        x.begin(0, 10);
        check.due("3: LAZY at BEAT 1, v 1", x.of(0, 4), 2);
        x.pass(1);
        x.begin(0, 10);
        check.due("3: LAZY at BEAT 2, v 1", x.of(0, 4), 2);
        x.pass(1);
        x.begin(0, 10);
        check.due("3: LAZY at BEAT 3, v 1", x.of(0, 4), 10);
        Check.hall(x, "left 5 d=0");
        check.due("3: LAZY stays whatever STEP is", x.of(0, 4), 10);
    }

    private static void toldGoes() {
        TwoBeatsAgo x = new TwoBeatsAgo();
        x.dancer(6, 0, 10);
        x.dancer(0, 0, 2);
        x.after(0, 1);
        for (int part = 0; part < 4; part++) {
            x.row(0, part, 9 - part);
        }
        int[] due = {19, 10, 17, 8};
        for (int beat = 0; beat < 4; beat++) {
            check.due("3: TOLD at BEAT " + beat, x.of(0, 4), due[beat]);
            x.pass(1);
            x.begin(0, 10);
        }
        check.due("3: TOLD at BEAT 4", x.of(0, 4), 19);
        x.begin(0, 23);
        check.due("3: TOLD goes round", x.of(0, 4), 8);
    }

    private static void stepsGo() {
        TwoBeatsAgo x = new TwoBeatsAgo();
        x.dancer(0, 0, 3);
        x.dancer(2, 0, 3);
        x.dancer(4, 0, 3);
        Check.hall(x, "wide 7;right 99 d<2;right 1 d=2");
        check.due("3: GOES is 0 at least", x.of(0, 4), 2);
        check.due("3: MIRRORED is 0 at least", x.of(1, 4), 2);
        check.due("3: HALTING goes half of 6", x.of(2, 4), 6);
        Check.hall(x, "wide 7;right 2 d=2");
        check.due("3: HALTING goes half of 5, cut", x.of(2, 4), 5);
    }

    private static void after() {
        TwoBeatsAgo x = new TwoBeatsAgo();
        x.dancer(0, 0, 1);
        x.dancer(0, 0, 2);
        check.due("4: after(0, 1)", x.after(0, 1), 0);
        check.due("4: after(0, 0)", x.after(0, 0), 1);
        check.due("4: it goes after itself", x.of(0, 2), 0);
        check.due("4: no such other", x.after(0, 2), -1);
        check.due("4: no such other", x.after(0, -1), -1);
        check.due("4: no such dancer", x.after(2, 0), -1);
        check.due("4: no such dancer", x.after(-1, 0), -1);
        check.due("4: nothing changed", x.of(0, 2), 0);
    }

    private static void begin() {
        TwoBeatsAgo x = new TwoBeatsAgo();
        x.dancer(0, 0, 1);
        Check.hall(x, "left 1 d=0");
        x.pass(7);
        check.due("5: begin(0, 20)", x.begin(0, 20), 4);
        for (int back = 0; back < 8; back++) {
            check.due("5: WAS " + back, x.of(0, 10 + back), 20);
        }
        check.due("5: begin(0, 24)", x.begin(0, 24), -2);
        check.due("5: begin(0, -1)", x.begin(0, -1), -2);
        check.due("5: begin(1, 0)", x.begin(1, 0), -1);
        check.due("5: NONE ahead of BAD", x.begin(-1, 24), -1);
        check.due("5: nothing changed", x.of(0, 10), 20);
        Check.hall(x, "wide 6");
        check.due("5: beyond a narrower ring", x.begin(0, 6), -2);
        check.due("5: its last place", x.begin(0, 5), 2);
    }

    private static void row() {
        TwoBeatsAgo x = new TwoBeatsAgo();
        x.dancer(6, 0, 1);
        x.dancer(3, 0, 1);
        check.due("6: row(0, 0, 9)", x.row(0, 0, 9), 0);
        check.due("6: row(0, 0, 4)", x.row(0, 0, 4), 9);
        check.due("6: row(0, 3, 1)", x.row(0, 3, 1), 0);
        check.due("6: row(0, 3, 0)", x.row(0, 3, 0), 1);
        check.due("6: part beyond", x.row(0, 4, 1), -1);
        check.due("6: part below", x.row(0, -1, 1), -1);
        check.due("6: no such dancer", x.row(2, 0, 1), -1);
        check.due("6: NONE ahead of BAD", x.row(0, 4, 10), -1);
        check.due("6: n beyond", x.row(0, 0, 10), -2);
        check.due("6: n below", x.row(0, 0, -1), -2);
        check.due("6: BAD ahead of STATE", x.row(1, 0, 10), -2);
        check.due("6: another KIND", x.row(1, 0, 1), -3);
        check.due("6: nothing changed", x.row(0, 0, 4), 4);
    }

    private static void feed() {
        TwoBeatsAgo x = new TwoBeatsAgo();
        check.due("7: feed(-1)", x.feed(-1), -2);
        check.due("7: feed(128)", x.feed(128), -2);
        check.due("7: feed(0)", x.feed(0), 1);
        for (int i = 2; i <= 100; i++) {
            check.due("7: feed(127)", x.feed(127), i);
        }
        check.due("7: FULL", x.feed(1), -4);
        check.due("7: BAD ahead of FULL", x.feed(128), -2);
        check.due("7: 100 bytes", x.count(5), 100);
    }

    private static void hallHolds() {
        TwoBeatsAgo x = new TwoBeatsAgo();
        x.dancer(0, 0, 20);
        for (int number = 1; number < 6; number++) {
            x.dancer(0, 0, 23);
        }
        Check.hall(x, "left 9 d=0");
        x.pass(1);
        check.due("8: told(1) without a wide", x.told(1), 24);
        check.due("8: the second", Check.hall(x, "wide 16;skip 3;wide 12;skip 4"), 1);
        check.due("8: THE TEXT is empty", x.count(5), 0);
        check.due("8: two HALLS", x.count(1), 2);
        check.due("8: the last wide", x.told(1), 12);
        check.due("8: the last skip", x.told(2), 4);
        check.due("8: place now modulo WIDE", x.of(0, 10), 5);
        for (int back = 1; back < 8; back++) {
            check.due("8: WAS " + back + " modulo WIDE", x.of(0, 10 + back), 8);
        }
        check.due("8: of all", x.of(5, 10), 11);
        check.due("8: of all", x.of(5, 17), 11);
        check.due("8: a fault", Check.hall(x, "wide 7x"), -16);
        check.due("8: THE TEXT is empty", x.count(5), 0);
        check.due("8: the one that held holds", x.told(1), 12);
        check.due("8: two HALLS still", x.count(1), 2);
        check.due("8: wide 0 is 1", Check.hall(x, "wide 0"), 2);
        check.due("8: wide 0 is 1", x.told(1), 1);
        check.due("8: no skip", x.told(2), 0);
        check.due("8: place 0", x.of(0, 10), 0);
        check.due("8: 24 without", Check.hall(x, "skip 00"), 3);
        check.due("8: 24 without", x.told(1), 24);
        check.due("8: ten clauses", Check.hall(x, "skip 1;skip 2;skip 3;skip 4;skip 5;skip 6;skip 7;skip 8;skip 9;skip 10"), 4);
        check.due("8: the tenth", x.told(2), 10);
    }

    private static void fault(String text, int place) {
        TwoBeatsAgo x = new TwoBeatsAgo();
        check.due("8: hall() by '" + text + "'", Check.hall(x, text), -10 - place);
        check.due("8: no HALL", x.count(1), 0);
        check.due("8: THE TEXT is empty", x.count(5), 0);
    }

    private static void hallFaults() {
        afterFault();
        fault("", 0);
        fault("Left 1 d=1", 0);
        fault(" left 1 d=1", 0);
        fault("l", 1);
        fault("wids 1", 3);
        fault("wide", 4);
        fault("wide1", 4);
        fault("wide ", 5);
        fault("wide  1", 5);
        fault("wide x", 5);
        fault("wide :", 5);
        fault("wide /", 5);
        fault("wide 1:", 6);
        fault("wide 123", 7);
        fault("wide 1 ", 6);
        fault("wide 1 d=1", 6);
        fault("skip 1;", 7);
        fault("skip 1;;", 7);
        fault("skip 1 ;skip 1", 6);
        fault("left 1", 6);
        fault("left 1;", 6);
        fault("left 123 d=1", 7);
        fault("left 1 ", 7);
        fault("left 1  d=1", 7);
        fault("left 1 e=1", 7);
        fault("left 1 d", 8);
        fault("left 1 d!1", 8);
        fault("left 1 d=", 9);
        fault("left 1 d=-1", 9);
        fault("left 1 d=123", 11);
        fault("left 1 d=1&", 11);
        fault("left 1 d=1|", 11);
        fault("left 1 d=1&d=1|d=1&", 19);
        fault("left 1 d=1&&d=1", 11);
        fault("left 1 d=1||d=1", 11);
        fault("left 1 d=1 ", 10);
        fault("left 1 d=1 |d=1", 10);
        fault("left 1 d=1)", 10);
        fault("left 1 (d=1", 11);
        fault("left 1 (d=1;wide 3", 11);
        fault("left 1 ()", 8);
        fault("left 1 !", 8);
        fault("left 1 !;", 8);
        fault("left 1 (((((d=1)))))", 11);
        fault("left 1 !!!!!d=1", 11);
        fault("left 1 !(!(!d=1))", 11);
        fault("left 1 !(!((d=1)))", 11);
        fault("left 1 d=1|((((!d=1))))", 15);
        fault("skip 1;skip 2;skip 3;skip 4;skip 5;skip 6;skip 7;skip 8;skip 9;skip 1;skip 1", 69);
        fault("right 1 d=1;left 1 d=1;wide 3;skip 5;weft 1", 38);
        fault("left 1 d=1&d=1&d=1&d=1&d=1&d=1&d=1&d=1&d=1&d=1&d=1&d=1&d=1&d=1&d=1&d=1&d=1&d=1&d=1&d=1&d=1&d=1&d=10&", 100);
        TwoBeatsAgo x = new TwoBeatsAgo();
        check.due("8: each ( ends", Check.hall(x, "left 1 ((((d=1))))&!!!!d=2|(d=1)&((((d=1))))"), 0);
        check.due("8: a text of 100", Check.hall(x, "left 10 d=1&d=1&d=1&d=1&d=1&d=1&d=1&d=1&d=1&d=1&d=1&d=1&d=1&d=1&d=1&d=1&d=1&d=1&d=1&d=1&d=10;wide 99"), 1);
        check.due("8: its wide", x.told(1), 99);
    }

    /** Nothing of a text that was none is left in the hall that comes next. */
    private static void afterFault() {
        TwoBeatsAgo x = new TwoBeatsAgo();
        x.dancer(0, 0, 9);
        check.due("8: a late fault", Check.hall(x, "wide 5;skip 3;left 9 d=0;left 8 d=0&d=1;x"), -50);
        check.due("8: no wide", x.told(1), 24);
        check.due("8: the place is not wrapped", x.of(0, 10), 9);
        check.due("8: no STEP", x.of(0, 3), 0);
        check.due("8: a hall", Check.hall(x, "left 1 d=0"), 0);
        check.due("8: WIDE without", x.told(1), 24);
        check.due("8: SKIP without", x.told(2), 0);
        check.due("8: STEP", x.of(0, 3), 1);
    }

    private static void hallFull() {
        TwoBeatsAgo x = new TwoBeatsAgo();
        for (int number = 0; number < 6; number++) {
            check.due("8: hall " + number, Check.hall(x, "wide 1" + number), number);
        }
        check.due("8: FULL", Check.hall(x, "wide 9"), -4);
        check.due("8: THE TEXT stays", x.count(5), 6);
        check.due("8: FULL ahead of a fault", Check.hall(x, "x"), -4);
        check.due("8: THE TEXT stays", x.count(5), 7);
        check.due("8: the sixth holds", x.told(1), 15);
    }

    private static void told() {
        TwoBeatsAgo x = new TwoBeatsAgo();
        x.dancer(0, 0, 4);
        x.dancer(0, 0, 5);
        x.dancer(0, 0, 4);
        Check.hall(x, "wide 99;skip 98");
        x.pass(60);
        check.due("9: BEAT", x.told(0), 60);
        check.due("9: WIDE", x.told(1), 99);
        check.due("9: SKIP", x.told(2), 98);
        check.due("9: places", x.told(3), 2);
        check.due("9: told(4)", x.told(4), -1);
        check.due("9: told(-1)", x.told(-1), -1);
    }
}
