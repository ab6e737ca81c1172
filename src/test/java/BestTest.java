/** Promises 17 to 21: what is best. */
public final class BestTest {
    private static final Check check = new Check();

    public static void main(String[] args) {
        whom();
        alone();
        stop();
        begins();
        crowd();
        check.end("BestTest");
    }

    private static TwoBeatsAgo at(int... places) {
        TwoBeatsAgo x = new TwoBeatsAgo();
        for (int place : places) {
            x.dancer(0, 0, place);
        }
        return x;
    }

    private static void whom() {
        TwoBeatsAgo x = at(0, 5, 5);
        check.due("17: of several the first", x.whom(0), 1);
        check.due("17: by nobody", x.whom(1), -5);
        x.after(2, 0);
        check.due("17: whom(1)", x.whom(1), 0);
        check.due("17: AFTER stays", x.of(1, 2), 1);
        check.due("17: BEAT stays", x.told(0), 0);
        check.due("17: no such dancer", x.whom(3), -1);
        check.due("17: no such dancer", x.whom(-1), -1);
        check.due("17: nobody", new TwoBeatsAgo().whom(0), -1);
        check.due("17: all there", at(4, 4).whom(1), 0);
        check.due("17: itself", at(4).whom(0), 0);
        // Dancer 0, behind 2 alone, is there behind 4; behind 1 itself behind 1.
        TwoBeatsAgo least = at(0, 9, 5);
        least.after(1, 2);
        check.due("17: the least, not the first", least.whom(0), 2);
        TwoBeatsAgo slow = at(21, 0);
        slow.after(0, 1);
        Check.hall(slow, "wide 99;left 1 d=1");
        check.due("17: only behind 61", slow.whom(0), -5);
        slow.pass(1);
        slow.begin(0, 21);
        check.due("17: behind 60", slow.whom(0), 0);
    }

    private static void alone() {
        TwoBeatsAgo x = at(0, 0, 7);
        check.due("18: never alone, whom", x.alone(0, 5, 0), 0);
        check.due("18: never alone, how many", x.alone(0, 5, 1), 0);
        Check.hall(x, "left 1 d=0");
        // After itself it meets dancer 2 at beats 19 to 21.
        check.due("18: itself is the first", x.alone(0, 18, 0), 0);
        check.due("18: itself is the first", x.alone(0, 18, 1), 18);
        check.due("18: whom", x.alone(0, 19, 0), 1);
        check.due("18: how many", x.alone(0, 19, 1), 19);
        check.due("18: alone(0, 30, 1)", x.alone(0, 30, 1), 30);
        check.due("18: alone(0, 1, 1)", x.alone(0, 1, 1), 1);
        check.due("18: n below", x.alone(0, 0, 0), -2);
        check.due("18: n beyond", x.alone(0, 31, 0), -2);
        check.due("18: no such what", x.alone(0, 1, 2), -1);
        check.due("18: no such what", x.alone(0, 1, -1), -1);
        check.due("18: no such dancer", x.alone(3, 1, 0), -1);
        check.due("18: no such dancer", x.alone(-1, 1, 0), -1);
        check.due("18: NONE ahead of BAD", x.alone(3, 0, 0), -1);
        check.due("18: AFTER stays", x.of(0, 2), 0);
        check.due("18: BEAT stays", x.told(0), 0);
        check.due("18: not alone with the first", at(3, 3).alone(1, 5, 1), 0);
        // Behind 0 they are together, from beat 1 on no more.
        check.due("18: behind 0 is not looked at", x.alone(1, 1, 1), 1);
    }

    private static void stop() {
        check.due("19: nobody", new TwoBeatsAgo().stop(), -5);
        check.due("19: both stay", at(0, 5).stop(), -5);
        TwoBeatsAgo x = at(0, 22);
        Check.hall(x, "left 1 d=1&(b=0|b=2)");
        // A stop behind 1 or 4 lets dancer 1 keep a place one further: there behind 11, not 13.
        check.due("19: together without", x.together(), 13);
        check.due("19: stop()", x.stop(), 1);
        check.due("19: BEAT stays", x.told(0), 0);
        check.due("19: places stay", x.of(1, 10), 22);
        TwoBeatsAgo never = at(0, 21);
        Check.hall(never, "left 1 d=1&b=0");
        check.due("19: together without", never.together(), -5);
        check.due("19: never is more than any", never.stop(), 1);
        never.pass(1);
        check.due("19: behind 0, a beat later", never.stop(), 0);
        never.pass(1);
        check.due("19: behind 2, two beats later", never.stop(), 2);
        TwoBeatsAgo late = new TwoBeatsAgo();
        late.dancer(0, 0, 0);
        late.dancer(1, 0, 22);
        Check.hall(late, "left 1 d=1&(b=0|b=2|b=9)");
        check.due("19: together without", late.together(), 11);
        check.due("19: one less", late.stop(), 1);
        // Five away, a place each beat of 3, 12, 30, 42, 60 by a stop behind 2 that keeps that of beat 2.
        TwoBeatsAgo longest = at(0, 19);
        Check.hall(longest, "left 1 d=1&(b=1|b=9)");
        check.due("19: together without", longest.together(), -5);
        check.due("19: behind 60, rather than never", longest.stop(), 2);
        TwoBeatsAgo soon = at(0, 5);
        soon.after(1, 0);
        check.due("19: not less than without", soon.stop(), -5);
        lastStop("left 1 d=1&b=5;skip 97", 40, 10);
        lastStop("left 1 d=1&b=6;skip 97", 41, -5);
    }

    /**
     * Dancer 1 gets one further in ten beats, and is two away. First it does so at beat 10, or 11,
     * since the hall stops BEAT 96 itself; a stop right behind that lets it keep the place once more.
     */
    private static void lastStop(String hall, int without, int due) {
        TwoBeatsAgo x = at(0, 22);
        x.pass(60);
        x.pass(36);
        Check.hall(x, hall);
        check.due("19: together without, " + hall, x.together(), without);
        check.due("19: stop(), " + hall, x.stop(), due);
    }

    private static void begins() {
        TwoBeatsAgo x = at(5, 9);
        check.due("20: how many", x.begins(1, 12, 0), 1);
        check.due("20: the least", x.begins(1, 12, 1), 5);
        x.after(1, 0);
        check.due("20: all", x.begins(1, 1, 0), 24);
        check.due("20: the least of all", x.begins(1, 1, 1), 0);
        check.due("20: n 0", x.begins(1, 0, 0), 1);
        check.due("20: n 0", x.begins(1, 0, 1), 5);
        check.due("20: n beyond", x.begins(1, 13, 0), -2);
        check.due("20: n below", x.begins(1, -1, 0), -2);
        check.due("20: no such what", x.begins(1, 0, 2), -1);
        check.due("20: no such what", x.begins(1, 0, -1), -1);
        check.due("20: no such dancer", x.begins(2, 0, 0), -1);
        check.due("20: NONE ahead of BAD", x.begins(-1, 13, 0), -1);
        check.due("20: places stay", x.of(1, 10), 9);
        x.dancer(0, 0, 6);
        check.due("20: none", x.begins(1, 12, 0), 0);
        check.due("20: none", x.begins(1, 12, 1), -5);
        TwoBeatsAgo slow = at(0, 3);
        Check.hall(slow, "wide 9;left 1 d=1");
        // One place in three beats: behind 12 four of them, behind 10 the fourth, behind 9 three.
        check.due("20: by 12", slow.begins(1, 12, 0), 5);
        check.due("20: by 9", slow.begins(1, 9, 0), 4);
        check.due("20: the least by 9", slow.begins(1, 9, 1), 0);
        slow.begin(0, 5);
        check.due("20: the least by 9", slow.begins(1, 9, 1), 2);
    }

    private static void crowd() {
        check.due("21: nobody", new TwoBeatsAgo().crowd(5), -5);
        check.due("21: of several the least", at(3, 2).crowd(0), 2);
        check.due("21: the most", at(3, 2, 3).crowd(0), 3);
        check.due("21: place 0", at(0, 1, 0).crowd(0), 0);
        check.due("21: place 0 of several", at(0, 1).crowd(40), 0);
        check.due("21: place 1", at(1, 2).crowd(0), 1);
        TwoBeatsAgo x = at(9, 9, 4);
        x.after(0, 2);
        check.due("21: behind 0", x.crowd(0), 9);
        check.due("21: behind 0, 1", x.crowd(1), 4);
        check.due("21: behind 40", x.crowd(40), 4);
        check.due("21: n beyond", x.crowd(41), -2);
        check.due("21: n below", x.crowd(-1), -2);
        check.due("21: BEAT stays", x.told(0), 0);
        check.due("21: a second time", x.crowd(0), 9);
        TwoBeatsAgo last = at(98, 97);
        check.due("21: beyond the ring", last.crowd(0), -5);
        Check.hall(last, "wide 99");
        last.dancer(0, 0, 98);
        check.due("21: the last place", last.crowd(40), 98);
    }
}
