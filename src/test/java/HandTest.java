/** Promises 22 to 29: seen, odds, dances, books. */
public final class HandTest {
    private static final Check check = new Check();
    private static final long NO = TwoBeatsAgo.NO;

    public static void main(String[] args) {
        see();
        can();
        odds();
        mean();
        dance();
        danced();
        book();
        looked();
        check.end("HandTest");
    }

    private static TwoBeatsAgo at(int... places) {
        TwoBeatsAgo x = new TwoBeatsAgo();
        for (int place : places) {
            x.dancer(0, 0, place);
        }
        return x;
    }

    private static void see() {
        TwoBeatsAgo x = at(0, 5);
        check.due("22: see(0, 98, 12)", x.see(0, 98, 12), 1);
        check.due("22: see(1, 0, 0)", x.see(1, 0, 0), 2);
        check.due("22: place beyond", x.see(0, 99, 0), -2);
        check.due("22: place below", x.see(0, -1, 0), -2);
        check.due("22: n beyond", x.see(0, 0, 13), -2);
        check.due("22: n below", x.see(0, 0, -1), -2);
        check.due("22: no such dancer", x.see(2, 0, 0), -1);
        check.due("22: no such dancer", x.see(-2, 0, 0), -1);
        check.due("22: NONE ahead of BAD", x.see(2, 99, 13), -1);
        check.due("22: two stay", x.count(2), 2);
        check.due("22: the same comes again", x.see(0, 98, 12), 3);
        check.due("22: four", x.see(0, 98, 12), 4);
        check.due("22: five", x.see(0, 98, 12), 5);
        check.due("22: FULL", x.see(0, 98, 12), -4);
        check.due("22: NONE ahead of FULL", x.see(2, 0, 0), -1);
        check.due("22: BAD ahead of FULL", x.see(0, 99, 0), -2);
        check.due("22: none then", x.see(-1, 99, 13), 0);
        check.due("22: none", x.count(2), 0);
        check.due("22: the first again", x.see(0, 0, 0), 1);
        check.due("22: nobody", new TwoBeatsAgo().see(0, 0, 0), -1);
        check.due("22: nobody, none then", new TwoBeatsAgo().see(-1, 0, 0), 0);
    }

    private static void can() {
        TwoBeatsAgo x = at(0, 5, 7);
        check.due("23: nothing seen", x.can(0), 7);
        check.due("23: no such dancer", x.can(3), -1);
        check.due("23: no such dancer", x.can(-1), -1);
        x.see(0, 5, 1);
        check.due("23: one is seen", x.can(0), 2);
        check.due("23: of another one", x.can(1), 0);
        x.see(1, 5, 12);
        check.due("23: two are seen", x.can(0), 2);
        x.see(2, 7, 0);
        check.due("23: three are seen", x.can(0), 2);
        x.see(2, 6, 12);
        check.due("23: another is not so", x.can(0), 0);
        check.due("23: AFTER stays", x.of(0, 2), 0);
        check.due("23: BEAT stays", x.told(0), 0);
        x.see(-1, 0, 0);
        x.see(0, 0, 0);
        check.due("23: behind 0", x.can(0), 7);
        x.see(-1, 0, 0);
        x.see(0, 98, 0);
        check.due("23: beyond the ring", x.can(0), 0);
        TwoBeatsAgo walking = at(0, 3);
        Check.hall(walking, "left 1 d=0");
        // After itself at 4 from beat 10 to 12, after the other at 4 from beat 1 on.
        walking.see(0, 4, 12);
        check.due("23: behind 12", walking.can(0), 3);
        walking.see(0, 3, 9);
        check.due("23: behind 9", walking.can(0), 1);
        walking.pass(1);
        check.due("23: from now on", walking.can(0), 0);
    }

    private static void odds() {
        check.due("24: nobody", new TwoBeatsAgo().odds(0, 0), NO);
        TwoBeatsAgo x = at(0, 5, 5);
        x.after(0, 1);
        x.after(2, 1);
        // Only if dancer 0 goes after itself they never are on one place.
        check.due("24: odds(30, 0)", x.odds(30, 0), 2);
        check.due("24: odds(30, 1)", x.odds(30, 1), 3);
        check.due("24: odds(0, 0)", x.odds(0, 0), 0);
        check.due("24: odds(0, 1)", x.odds(0, 1), 1);
        check.due("24: n beyond", x.odds(31, 0), NO);
        check.due("24: n below", x.odds(-1, 0), NO);
        check.due("24: no such part", x.odds(0, 2), NO);
        check.due("24: no such part", x.odds(0, -1), NO);
        check.due("24: AFTER stays", x.of(0, 2), 1);
        check.due("24: BEAT stays", x.told(0), 0);
        x.dancer(0, 0, 0);
        x.after(3, 1);
        check.due("24: lowest terms", x.odds(1, 0), 1);
        check.due("24: lowest terms", x.odds(1, 1), 2);
        check.due("24: one, there", at(3).odds(0, 0), 1);
        check.due("24: one, there", at(3).odds(0, 1), 1);
        TwoBeatsAgo slow = at(11, 0);
        Check.hall(slow, "left 1 d=1");
        check.due("24: behind 31 only", slow.odds(30, 0), 0);
        slow.pass(1);
        check.due("24: behind 30", slow.odds(30, 0), 1);
        check.due("24: behind 30", slow.odds(29, 0), 0);
    }

    private static void mean() {
        check.due("25: nobody", new TwoBeatsAgo().mean(0, 0), NO);
        check.due("25: one", at(3).mean(0, 0), NO);
        check.due("25: two", at(3, 20).mean(0, 0), 7);
        check.due("25: two", at(3, 20).mean(60, 1), 1);
        check.due("25: on one place", at(3, 3, 3).mean(0, 0), 0);
        check.due("25: on one place", at(3, 3, 3).mean(0, 1), 1);
        TwoBeatsAgo x = at(0, 3, 23);
        check.due("25: 3, 1, 4", x.mean(0, 0), 8);
        check.due("25: 3, 1, 4", x.mean(0, 1), 3);
        check.due("25: n beyond", x.mean(61, 0), NO);
        check.due("25: n below", x.mean(-1, 0), NO);
        check.due("25: no such part", x.mean(0, 2), NO);
        check.due("25: no such part", x.mean(0, -1), NO);
        x.after(2, 1);
        check.due("25: 3, 3, 0", x.mean(1, 0), 2);
        check.due("25: 3, 3, 0", x.mean(1, 1), 1);
        check.due("25: BEAT stays", x.told(0), 0);
        TwoBeatsAgo four = at(0, 0, 0, 3);
        check.due("25: nine of six", four.mean(0, 0), 3);
        check.due("25: nine of six", four.mean(0, 1), 2);
        TwoBeatsAgo slow = at(0, 0);
        Check.hall(slow, "wide 99;left 1 d=1");
        slow.pass(1);
        check.due("25: behind 59", slow.mean(59, 0), 20);
        check.due("25: behind 60", slow.mean(60, 0), 21);
    }

    private static void dance() {
        TwoBeatsAgo x = new TwoBeatsAgo();
        for (int step = 1; step <= 10; step++) {
            check.due("26: " + step, x.dance(step % 3), step);
        }
        check.due("26: FULL", x.dance(0), -4);
        check.due("26: NONE ahead of FULL", x.dance(3), -1);
        check.due("26: NONE", x.dance(-2), -1);
        check.due("26: ten stay", x.count(3), 10);
        check.due("26: empty then", x.dance(-1), 0);
        check.due("26: empty", x.count(3), 0);
        check.due("26: the first again", x.dance(2), 1);
    }

    private static void danced() {
        TwoBeatsAgo x = at(0, 5, 9);
        check.due("27: no dance, places", x.danced(0), 3);
        check.due("27: no dance, place of 1", x.danced(11), 5);
        check.due("27: no such what", x.danced(1), -1);
        check.due("27: no such what", x.danced(-1), -1);
        check.due("27: no such dancer", x.danced(13), -1);
        check.due("27: no such dancer", x.danced(9), -1);
        Check.hall(x, "left 1 b=0");
        x.dance(2);
        check.due("27: no BEAT goes", x.danced(10), 0);
        x.dance(0);
        check.due("27: 0 goes after 1", x.danced(10), 6);
        check.due("27: 1 goes after 2", x.danced(11), 10);
        check.due("27: 2 goes after 0", x.danced(12), 1);
        check.due("27: AFTER stays", x.of(0, 2), 0);
        check.due("27: places stay", x.of(0, 10), 0);
        check.due("27: BEAT stays", x.told(0), 0);
        TwoBeatsAgo stopped = at(0, 5);
        Check.hall(stopped, "left 1 d=0&b=1;skip 3");
        stopped.after(1, 0);
        stopped.dance(1);
        check.due("27: the band stops", stopped.danced(11), 5);
        check.due("27: on two places", stopped.danced(0), 2);
        stopped.dance(0);
        check.due("27: BEAT 1, then", stopped.danced(10), 1);
        check.due("27: on two places", stopped.danced(0), 2);
        stopped.dance(0);
        check.due("27: by SKIP too", stopped.danced(11), 0);
        check.due("27: by SKIP too", stopped.danced(10), 1);
        stopped.dance(0);
        // Two beats ahead of the one that starts, dancer 0 still was at 0, for both.
        check.due("27: the fourth", stopped.danced(11), 0);
        check.due("27: the fourth", stopped.danced(0), 1);
        stopped.dance(0);
        check.due("27: the fifth", stopped.danced(11), 1);
        check.due("27: the fifth", stopped.danced(10), 1);
        TwoBeatsAgo single = at(4);
        single.dance(2);
        single.dance(0);
        check.due("27: one goes after itself", single.danced(10), 4);
        check.due("27: nobody", new TwoBeatsAgo().danced(0), 0);
        check.due("27: nobody", new TwoBeatsAgo().danced(10), -1);
    }

    private static void book() {
        TwoBeatsAgo x = at(0, 5);
        check.due("28: book(0, 98)", x.book(0, 98), 1);
        check.due("28: book(1, 0)", x.book(1, 0), 2);
        check.due("28: place beyond", x.book(0, 99), -2);
        check.due("28: place below", x.book(0, -1), -2);
        check.due("28: no such dancer", x.book(2, 0), -1);
        check.due("28: NONE ahead of BAD", x.book(-2, 99), -1);
        check.due("28: two stay", x.count(4), 2);
        for (int row = 3; row <= 8; row++) {
            check.due("28: " + row, x.book(0, 0), row);
        }
        check.due("28: FULL", x.book(0, 0), -4);
        check.due("28: NONE ahead of FULL", x.book(2, 0), -1);
        check.due("28: BAD ahead of FULL", x.book(0, 99), -2);
        check.due("28: empty then", x.book(-1, 99), 0);
        check.due("28: empty", x.count(4), 0);
    }

    private static void looked() {
        TwoBeatsAgo x = at(0, 5);
        check.due("29: no rows", x.looked(), -5);
        x.book(0, 0);
        x.book(1, 5);
        check.due("29: all so", x.looked(), -5);
        x.book(1, 6);
        x.book(0, 7);
        check.due("29: the third row", x.looked(), 2);
        x.begin(1, 6);
        check.due("29: the second row", x.looked(), 1);
        x.begin(0, 7);
        check.due("29: the first row", x.looked(), 0);
        x.book(-1, 0);
        check.due("29: none", x.looked(), -5);
        TwoBeatsAgo walking = at(0);
        Check.hall(walking, "left 1 d=0");
        walking.book(0, 0);
        walking.book(0, 1);
        check.due("29: the place now", walking.looked(), 1);
        walking.pass(1);
        check.due("29: the place now, not one ago", walking.looked(), 0);
        TwoBeatsAgo eight = at(0);
        for (int row = 0; row < 7; row++) {
            eight.book(0, 0);
        }
        eight.book(0, 1);
        check.due("29: the last row", eight.looked(), 7);
    }
}
