/** Promises 10 to 16: beats. */
public final class BeatsTest {
    private static final Check check = new Check();
    /** Dancer 0 stays; dancer 1, after itself, goes to the next place at beats 1, 4, 7, .. 58, 61. */
    private static final String SLOW = "wide 99;left 1 d=1";

    public static void main(String[] args) {
        pass();
        passSkips();
        on();
        again();
        together();
        still();
        meet();
        far();
        check.end("BeatsTest");
    }

    private static TwoBeatsAgo two(int first, int second) {
        TwoBeatsAgo x = new TwoBeatsAgo();
        x.dancer(0, 0, first);
        x.dancer(0, 0, second);
        return x;
    }

    /** Each goes after the other. */
    private static TwoBeatsAgo swapping() {
        TwoBeatsAgo x = two(0, 5);
        x.after(0, 1);
        x.after(1, 0);
        return x;
    }

    private static void pass() {
        TwoBeatsAgo x = swapping();
        int[] first = {5, 5, 5, 0, 0, 0, 5};
        for (int beat = 1; beat <= 7; beat++) {
            check.due("10: pass(1)", x.pass(1), beat);
            check.due("10: place of 0 at BEAT " + beat, x.of(0, 10), first[beat - 1]);
            check.due("10: place of 1 at BEAT " + beat, x.of(1, 10), 5 - first[beat - 1]);
        }
        check.due("10: pass(0)", x.pass(0), 7);
        check.due("10: pass(60)", x.pass(60), 67);
        check.due("10: pass(61)", x.pass(61), -2);
        check.due("10: pass(-1)", x.pass(-1), -2);
        check.due("10: BEAT stays", x.told(0), 67);
        TwoBeatsAgo late = new TwoBeatsAgo();
        for (int i = 0; i < 166; i++) {
            late.pass(60);
        }
        check.due("10: pass(40) at 9960", late.pass(40), -3);
        check.due("10: pass(39) at 9960", late.pass(39), 9999);
        check.due("10: pass(1) at 9999", late.pass(1), -3);
        check.due("10: pass(0) at 9999", late.pass(0), 9999);
        check.due("10: BAD ahead of STATE", late.pass(61), -2);
        late.dancer(0, 0, 0);
        Check.hall(late, "left 1 d=0");
        check.due("11: beyond 9999", late.on(60, 10), 20);
        check.due("11: BEAT stays", late.told(0), 9999);
    }

    private static void passSkips() {
        TwoBeatsAgo x = new TwoBeatsAgo();
        x.dancer(0, 0, 0);
        Check.hall(x, "left 1 d=0;skip 2");
        int[] places = {1, 1, 1, 1, 2, 2, 2, 2, 3};
        for (int beat = 1; beat <= 9; beat++) {
            check.due("10: pass(1) with SKIP", x.pass(1), beat);
            check.due("10: place with SKIP at BEAT " + beat, x.of(0, 10), places[beat - 1]);
            if (beat == 5) was(x, new int[] {2, 1, 1, 1, 1, 0, 0, 0});
        }
        TwoBeatsAgo stopped = swapping();
        Check.hall(stopped, "skip 1");
        stopped.pass(60);
        check.due("10: SKIP 1 stops all", stopped.of(0, 10), 0);
    }

    private static void was(TwoBeatsAgo x, int[] due) {
        for (int back = 0; back < 8; back++) {
            check.due("10: WAS " + back, x.of(0, 10 + back), due[back]);
        }
    }

    private static void on() {
        TwoBeatsAgo x = swapping();
        check.due("11: on(0, 10)", x.on(0, 10), 0);
        check.due("11: on(1, 10)", x.on(1, 10), 5);
        check.due("11: on(1, 11)", x.on(1, 11), 0);
        check.due("11: on(4, 10)", x.on(4, 10), 0);
        check.due("11: on(57, 10)", x.on(57, 10), 5);
        check.due("11: on(60, 10)", x.on(60, 10), 0);
        check.due("11: on(60, 0)", x.on(60, 0), 2);
        check.due("11: on(61, 0)", x.on(61, 0), -2);
        check.due("11: on(-1, 10)", x.on(-1, 10), -2);
        check.due("11: on(0, 12)", x.on(0, 12), -1);
        check.due("11: on(0, 9)", x.on(0, 9), -1);
        check.due("11: on(0, 1)", x.on(0, 1), -1);
        check.due("11: on(0, -1)", x.on(0, -1), -1);
        check.due("11: NONE ahead of BAD", x.on(61, 1), -1);
        check.due("11: BEAT stays", x.told(0), 0);
        check.due("11: places stay", x.of(0, 10), 0);
        x.after(0, 0);
        check.due("11: on(1, 0)", x.on(1, 0), 1);
        check.due("11: nobody", new TwoBeatsAgo().on(60, 0), 0);
        TwoBeatsAgo told = new TwoBeatsAgo();
        for (int dancer = 0; dancer < 6; dancer++) {
            told.dancer(6, 0, 3);
        }
        told.row(5, 3, 9);
        told.pass(3);
        check.due("11: by its ROW", told.on(1, 15), 12);
        check.due("11: by its ROW", told.on(1, 14), 3);
    }

    private static void again() {
        check.due("12: nobody", new TwoBeatsAgo().again(), 1);
        check.due("12: both stay", two(0, 5).again(), 1);
        TwoBeatsAgo x = swapping();
        check.due("12: swapping", x.again(), -5);
        x.pass(4);
        check.due("12: swapping, WAS 7 is of the beginning", x.again(), -5);
        x.pass(1);
        check.due("12: swapping, behind five", x.again(), 6);
        check.due("12: BEAT stays", x.told(0), 5);
        TwoBeatsAgo third = two(3, 0);
        third.dancer(0, 0, 5);
        third.after(1, 2);
        third.after(2, 1);
        check.due("12: of all", third.again(), -5);
        third.pass(5);
        check.due("12: of all", third.again(), 6);
        TwoBeatsAgo once = new TwoBeatsAgo();
        once.dancer(0, 0, 0);
        Check.hall(once, "left 1 d=0");
        check.due("12: the place now too", once.again(), -5);
        // One place in three beats: a ring of 20 is gone round in 60 beats, one of 21 in 63.
        TwoBeatsAgo round = new TwoBeatsAgo();
        round.dancer(0, 0, 0);
        Check.hall(round, "wide 20;left 1 d=0");
        round.pass(10);
        check.due("12: behind 60", round.again(), 60);
        Check.hall(round, "wide 21;left 1 d=0");
        round.pass(10);
        check.due("12: not by 60", round.again(), -5);
    }

    private static void together() {
        check.due("13: nobody", new TwoBeatsAgo().together(), 0);
        check.due("13: both there", two(5, 5).together(), 0);
        check.due("13: both stay", two(0, 5).together(), -5);
        TwoBeatsAgo x = two(0, 5);
        x.after(0, 1);
        check.due("13: behind a beat", x.together(), 1);
        check.due("13: BEAT stays", x.told(0), 0);
        check.due("13: places stay", x.of(0, 10), 0);
        x.dancer(0, 0, 9);
        check.due("13: a third one", x.together(), -5);
        x.after(2, 0);
        // Dancer 2 goes where dancer 0 was two beats ago: at 5 from beat 1 on, so behind 4.
        check.due("13: the third one follows", x.together(), 4);
        TwoBeatsAgo slow = two(21, 0);
        Check.hall(slow, SLOW);
        check.due("13: only behind 61", slow.together(), -5);
        slow.pass(1);
        check.due("13: behind 60", slow.together(), 60);
    }

    private static void still() {
        check.due("14: nobody", new TwoBeatsAgo().still(), 0);
        check.due("14: both stay", two(0, 5).still(), 0);
        TwoBeatsAgo x = two(0, 5);
        x.after(0, 1);
        check.due("14: behind a beat", x.still(), 1);
        // Behind a beat each is where the other was two beats ago; both move again only later.
        check.due("14: swapping", swapping().still(), 1);
        Check.hall(x, "skip 1");
        check.due("14: SKIP not looked at", x.still(), -5);
        // LAZY ones who wander to and fro but at multiples of 7, 9, 11, and the beat behind each.
        TwoBeatsAgo lazy = new TwoBeatsAgo();
        lazy.dancer(3, 5, 0);
        lazy.dancer(3, 7, 0);
        lazy.dancer(3, 9, 0);
        lazy.dancer(0, 0, 0);
        for (int dancer = 0; dancer < 3; dancer++) {
            lazy.after(dancer, 3);
        }
        Check.hall(lazy, "left 1 d<3&(b=0|b=2|b=4|b=6|b=8)");
        lazy.pass(38);
        check.due("14: not by 60", lazy.still(), -5);
        lazy.pass(1);
        check.due("14: behind 60", lazy.still(), 60);
        check.due("14: BEAT stays", lazy.told(0), 39);
    }

    private static void meet() {
        TwoBeatsAgo x = two(0, 5);
        x.dancer(0, 0, 5);
        x.after(0, 1);
        check.due("15: meet(0, 1)", x.meet(0, 1), 1);
        check.due("15: meet(1, 0)", x.meet(1, 0), 1);
        check.due("15: meet(1, 2)", x.meet(1, 2), 0);
        check.due("15: meet(0, 0)", x.meet(0, 0), -2);
        check.due("15: meet(0, 3)", x.meet(0, 3), -1);
        check.due("15: meet(-1, 0)", x.meet(-1, 0), -1);
        check.due("15: NONE ahead of BAD", x.meet(3, 3), -1);
        check.due("15: swapping", swapping().meet(0, 1), -5);
        TwoBeatsAgo slow = two(21, 0);
        slow.dancer(0, 0, 9);
        Check.hall(slow, SLOW);
        check.due("15: only behind 61", slow.meet(0, 1), -5);
        slow.pass(1);
        check.due("15: behind 60", slow.meet(1, 0), 60);
        check.due("15: BEAT stays", slow.told(0), 1);
    }

    private static void far() {
        TwoBeatsAgo x = two(0, 0);
        Check.hall(x, "wide 24;left 1 d=1");
        check.due("16: far(0, 1, 0)", x.far(0, 1, 0), 0);
        check.due("16: far(0, 1, 1)", x.far(0, 1, 1), 1);
        check.due("16: far(0, 1, 3)", x.far(0, 1, 3), 1);
        check.due("16: far(1, 0, 4)", x.far(1, 0, 4), 2);
        check.due("16: the shorter way", x.far(0, 1, 60), 12);
        check.due("16: n beyond", x.far(0, 1, 61), -2);
        check.due("16: n below", x.far(0, 1, -1), -2);
        check.due("16: one is both", x.far(1, 1, 0), -2);
        check.due("16: no such dancer", x.far(0, 2, 0), -1);
        check.due("16: no such dancer", x.far(-1, 0, 0), -1);
        check.due("16: NONE ahead of BAD", x.far(2, 2, 61), -1);
        check.due("16: BEAT stays", x.told(0), 0);
        x.begin(1, 23);
        check.due("16: over the ring's end", x.far(0, 1, 0), 1);
        TwoBeatsAgo closing = two(0, 7);
        closing.after(1, 0);
        check.due("16: behind 0 too", closing.far(0, 1, 60), 7);
        TwoBeatsAgo slow = two(0, 0);
        Check.hall(slow, SLOW);
        slow.pass(1);
        check.due("16: behind 59", slow.far(0, 1, 59), 20);
        check.due("16: behind 60", slow.far(0, 1, 60), 21);
        TwoBeatsAgo odd = two(0, 3);
        Check.hall(odd, "wide 7");
        check.due("16: an odd ring", odd.far(1, 0, 0), 3);
        odd.begin(1, 4);
        check.due("16: an odd ring", odd.far(1, 0, 0), 3);
    }
}
