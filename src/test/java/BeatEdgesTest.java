/** The edges that part 2 of the terms and promises 10 to 21 name: beats, and what is best. */
public final class BeatEdgesTest {
    private static final Check check = new Check();
    private static final int[] FAR_OFF = {-1000, Integer.MIN_VALUE, Integer.MIN_VALUE + 10, 1000, Integer.MAX_VALUE};
    /** Dancer 0 stays; dancer 1, after itself, goes to the next place at beats 1, 4, 7, .. 58, 61. */
    private static final String SLOW = "wide 99;left 1 d=1";

    public static void main(String[] args) {
        passEnds();
        farOff();
        whats();
        onIsWherePassLeads();
        beyondLastBeat();
        stopGoesLikeSkip();
        againEnds();
        togetherEnds();
        stillEnds();
        apartInTheRing();
        farEnds();
        whomEnds();
        aloneEnds();
        stopEnds();
        beginsEnds();
        crowdEnds();
        check.end("BeatEdgesTest");
    }

    private static TwoBeatsAgo at(int... places) {
        TwoBeatsAgo x = new TwoBeatsAgo();
        for (int place : places) {
            x.dancer(0, 0, place);
        }
        return x;
    }

    private static TwoBeatsAgo atBeat(int beat) {
        TwoBeatsAgo x = new TwoBeatsAgo();
        for (int gone = 0; gone < beat; gone += 60) {
            x.pass(Math.min(60, beat - gone));
        }
        check.due("9: BEAT", x.told(0), beat);
        return x;
    }

    /** n BEATS (0 .. 60); STATE: it would be above 9999. */
    private static void passEnds() {
        for (int n = 0; n <= 60; n++) {
            check.due("10: pass(" + n + ")", new TwoBeatsAgo().pass(n), n);
        }
        int[][] ends = {{9939, 60, 61}, {9940, 59, 60}, {9998, 1, 2}, {9999, 0, 1}, {9999, 0, 60}};
        for (int[] end : ends) {
            TwoBeatsAgo x = atBeat(end[0]);
            check.due("10: " + end[2] + " at " + end[0], x.pass(end[2]), end[2] > 60 ? -2 : -3);
            check.due("10: BEAT stays", x.told(0), end[0]);
            check.due("10: BAD ahead of STATE", x.pass(61), -2);
            check.due("10: BAD ahead of STATE", x.pass(-1), -2);
            check.due("10: " + end[1] + " at " + end[0], x.pass(end[1]), 9999);
        }
    }

    private static void farOff() {
        TwoBeatsAgo x = at(1, 2);
        for (int far : FAR_OFF) {
            check.due("10: pass(" + far + ")", x.pass(far), -2);
            check.due("11: n " + far, x.on(far, 0), -2);
            check.due("11: n " + far, x.on(far, 11), -2);
            check.due("11: what " + far, x.on(0, far), -1);
            check.due("15: one " + far, x.meet(far, 1), -1);
            check.due("15: other " + far, x.meet(0, far), -1);
            check.due("15: both " + far, x.meet(far, far), -1);
            check.due("16: one " + far, x.far(far, 1, 0), -1);
            check.due("16: other " + far, x.far(0, far, 0), -1);
            check.due("16: both " + far, x.far(far, far, 0), -1);
            check.due("16: n " + far, x.far(0, 1, far), -2);
            check.due("17: dancer " + far, x.whom(far), -1);
            check.due("18: dancer " + far, x.alone(far, 1, 0), -1);
            check.due("18: n " + far, x.alone(0, far, 0), -2);
            check.due("18: what " + far, x.alone(0, 1, far), -1);
            check.due("20: dancer " + far, x.begins(far, 0, 0), -1);
            check.due("20: n " + far, x.begins(0, far, 0), -2);
            check.due("20: what " + far, x.begins(0, 0, far), -1);
            check.due("21: n " + far, x.crowd(far), -2);
        }
        TwoBeatsAgo nobody = new TwoBeatsAgo();
        check.due("11: nobody", nobody.on(0, 10), -1);
        check.due("15: nobody", nobody.meet(0, 1), -1);
        check.due("15: nobody, one is both", nobody.meet(0, 0), -1);
        check.due("16: nobody", nobody.far(0, 1, 0), -1);
        check.due("17: nobody", nobody.whom(0), -1);
        check.due("18: nobody", nobody.alone(0, 1, 0), -1);
        check.due("20: nobody", nobody.begins(0, 0, 0), -1);
    }

    private static void whats() {
        for (int dancers = 0; dancers <= 6; dancers++) {
            TwoBeatsAgo x = at(new int[] {9, 8, 7, 6, 5, 4}, dancers);
            for (int what = -3; what <= 20; what++) {
                boolean isDancer = what >= 10 && what < 10 + dancers;
                int due = what == 0 ? dancers : isDancer ? 19 - what : -1;
                check.due("11: on(0, " + what + ") of " + dancers, x.on(0, what), due);
                check.due("11: on(60, " + what + ") of " + dancers, x.on(60, what), due);
                boolean is = what == 0 || isDancer;
                check.due("11: NONE ahead of BAD, " + what + " of " + dancers, x.on(61, what), is ? -2 : -1);
                check.due("11: NONE ahead of BAD, " + what + " of " + dancers, x.on(-1, what), is ? -2 : -1);
            }
        }
        TwoBeatsAgo x = at(1, 2);
        for (int what = -3; what <= 4; what++) {
            boolean is = what == 0 || what == 1;
            check.due("18: BAD of what " + what, x.alone(0, 0, what), is ? -2 : -1);
            check.due("18: BAD of what " + what, x.alone(0, 31, what), is ? -2 : -1);
            check.due("18: dancer, n, what " + what, x.alone(2, 0, what), -1);
            check.due("20: BAD of what " + what, x.begins(0, -1, what), is ? -2 : -1);
            check.due("20: BAD of what " + what, x.begins(0, 13, what), is ? -2 : -1);
            check.due("20: dancer, n, what " + what, x.begins(2, 13, what), -1);
        }
    }

    private static TwoBeatsAgo at(int[] places, int many) {
        return at(java.util.Arrays.copyOf(places, many));
    }

    /** All KINDS in a ring in which each goes after the next, with a hall that skips; periods of BEAT are parts of 60. */
    private static TwoBeatsAgo six(TwoBeatsAgo x) {
        Check.hall(x, "left 1 b=9|b<3&d>2;right 2 b=5|b=0;wide 13;skip 5");
        int[] vs = {1, 2, 3, 4, 8, 2};
        for (int dancer = 0; dancer < 6; dancer++) {
            x.dancer(dancer + 1, vs[dancer], dancer / 2);
        }
        for (int dancer = 0; dancer < 6; dancer++) {
            x.after(dancer, (dancer + 1) % 6);
        }
        for (int part = 0; part < 4; part++) {
            x.row(5, part, 2 * part + 1);
        }
        return x;
    }

    /** ON n BEATS is where n BEATS lead, for each n 0 .. 60. */
    private static void onIsWherePassLeads() {
        TwoBeatsAgo asked = six(new TwoBeatsAgo());
        for (int n = 0; n <= 60; n++) {
            TwoBeatsAgo gone = six(new TwoBeatsAgo());
            gone.pass(n);
            check.due("11: on(" + n + ", 0)", asked.on(n, 0), gone.told(3));
            for (int dancer = 0; dancer < 6; dancer++) {
                check.due("11: on(" + n + ", 1" + dancer + ")", asked.on(n, 10 + dancer), gone.of(dancer, 10));
            }
        }
    }

    /** What is asked goes on from how all is, BEATS also beyond 9999: 9999 is 39 and 166 times 60. */
    private static void beyondLastBeat() {
        TwoBeatsAgo early = six(atBeat(39));
        TwoBeatsAgo last = six(atBeat(9999));
        check.due("10: none goes any more", last.pass(1), -3);
        check.dueText("11 to 27: beyond 9999", asked(last), asked(early));
        check.due("9: BEAT stays", last.told(0), 9999);
        for (int dancer = 0; dancer < 6; dancer++) {
            early.begin(dancer, 3);
            last.begin(dancer, 3);
        }
        check.dueText("11 to 27: beyond 9999, all on one place", asked(last), asked(early));
        TwoBeatsAgo x = atBeat(9999);
        Check.hall(x, "left 1 b=0;skip 99");
        x.dancer(0, 0, 0);
        check.due("11: BEAT 10000 is 0 modulo 10", x.on(2, 10), 1);
        // BEAT and 1 are 9999 + 1 .. ; 101 times 99 is 9999, so the next stop is behind 10098.
        Check.hall(x, "left 1 d=0;skip 10");
        check.due("11: SKIP 10 at 9999", x.on(1, 10), 0);
        check.due("11: SKIP 10 beyond", x.on(2, 10), 1);
        Check.hall(x, "left 1 d=0;skip 11");
        check.due("11: SKIP 11 at 9999", x.on(1, 10), 1);
    }

    private static String asked(TwoBeatsAgo x) {
        StringBuilder text = new StringBuilder();
        text.append(x.again()).append(' ').append(x.together()).append(' ').append(x.still()).append(' ').append(x.stop());
        x.see(0, 5, 4);
        x.dance(0);
        x.dance(1);
        x.dance(0);
        x.dance(2);
        x.dance(0);
        for (int n = 0; n <= 60; n += 5) {
            text.append('\n').append(x.on(n, 0)).append(' ').append(x.mean(n, 0)).append(' ').append(x.mean(n, 1));
            text.append(' ').append(x.crowd(Math.min(n, 40))).append(' ').append(x.odds(Math.min(n, 30), 0));
        }
        for (int d = 0; d < 6; d++) {
            text.append('\n').append(x.whom(d)).append(' ').append(x.alone(d, 30, 0)).append(' ').append(x.alone(d, 30, 1));
            text.append(' ').append(x.begins(d, 12, 0)).append(' ').append(x.begins(d, 12, 1)).append(' ').append(x.can(d));
            text.append(' ').append(x.danced(10 + d)).append(' ').append(x.on(60, 10 + d));
            text.append(' ').append(x.meet(d, (d + 1) % 6)).append(' ').append(x.far(d, (d + 1) % 6, 60));
            x.pass(0);
        }
        x.see(-1, 0, 0);
        x.dance(-1);
        return text.toString();
    }

    /** A BEAT for which the band stops goes like one that SKIP stops. */
    private static void stopGoesLikeSkip() {
        String hall = "left 1 d=0|b=1;wide 9";
        TwoBeatsAgo byHand = at(0, 4);
        TwoBeatsAgo bySkip = at(0, 4);
        Check.hall(byHand, hall);
        Check.hall(bySkip, hall + ";skip 3");
        byHand.after(1, 0);
        bySkip.after(1, 0);
        for (int beat = 0; beat < 10; beat++) {
            byHand.dance(beat % 3 == 2 ? 1 : 0);
            for (int dancer = 0; dancer < 2; dancer++) {
                check.due("27: behind " + (beat + 1), byHand.danced(10 + dancer), bySkip.on(beat + 1, 10 + dancer));
            }
        }
        // Both by SKIP and by hand: stopped once.
        bySkip.dance(0);
        bySkip.dance(0);
        bySkip.dance(1);
        bySkip.dance(0);
        check.due("27: both stop", bySkip.danced(11), bySkip.on(4, 11));
        check.due("27: both stop", bySkip.danced(10), bySkip.on(4, 10));
    }

    /** AGAIN: 1 .. 60. A walker in a ring of 20 is where it was behind 60. */
    private static void againEnds() {
        check.due("12: nobody", new TwoBeatsAgo().again(), 1);
        check.due("12: never 0", at(3).again(), 1);
        for (int wide = 1; wide <= 22; wide++) {
            TwoBeatsAgo x = at(0);
            Check.hall(x, "left 1 d=0;wide " + wide);
            x.pass(12);
            check.due("12: a ring of " + wide, x.again(), wide == 1 ? 1 : wide <= 20 ? 3 * wide : -5);
        }
        // Dancer 0 stands at 5 from BEAT 1 on, and its WAS 7 is another place up to BEAT 7.
        TwoBeatsAgo x = at(0, 5);
        x.after(0, 1);
        x.pass(1);
        for (int gone = 1; gone <= 9; gone++) {
            check.due("12: WAS 7 too, at BEAT " + gone, x.again(), gone < 8 ? -5 : 1);
            x.pass(1);
        }
    }

    /** TOGETHER, MEET: 0 .. 60; the least. */
    private static void togetherEnds() {
        for (int apart = 0; apart <= 22; apart++) {
            TwoBeatsAgo x = at(apart, 0);
            Check.hall(x, SLOW);
            int due = apart == 0 ? 0 : 3 * apart - 2;
            check.due("13: " + apart + " apart", x.together(), due > 60 ? -5 : due);
            check.due("15: " + apart + " apart", x.meet(0, 1), due > 60 ? -5 : due);
            check.due("15: " + apart + " apart", x.meet(1, 0), due > 60 ? -5 : due);
            if (due < 61) continue;
            x.pass(due - 60);
            check.due("13: " + apart + " apart, later", x.together(), 60);
            check.due("15: " + apart + " apart, later", x.meet(0, 1), 60);
        }
        check.due("13: one", at(7).together(), 0);
        check.due("13: six on one place", at(7, 7, 7, 7, 7, 7).together(), 0);
        check.due("13: five of six", at(7, 7, 7, 7, 7, 8).together(), -5);
        check.due("15: the last two", at(1, 2, 3, 4, 7, 7).meet(4, 5), 0);
        TwoBeatsAgo one = at(0, 0, 5);
        Check.hall(one, "wide 1");
        check.due("13: a ring of one place", one.together(), 0);
    }

    /** STILL: 0 .. 60; not whether the band stops, but where each GOES. */
    private static void stillEnds() {
        check.due("14: nobody", new TwoBeatsAgo().still(), 0);
        TwoBeatsAgo x = at(0, 0);
        Check.hall(x, "left 1 d=1;skip 1");
        check.due("14: the band stops each BEAT", x.still(), -5);
        Check.hall(x, "left 1 b=3|b=4|b=5|b=6|b=7|b=8|b=9;skip 1");
        check.due("14: at BEAT 0", x.still(), 0);
        x.pass(3);
        check.due("14: at BEAT 10", x.still(), 7);
        // LAZY ones stay where they are at BEAT 0 alone; behind it each goes to the one that stands.
        TwoBeatsAgo lazy = new TwoBeatsAgo();
        lazy.dancer(3, 9, 4);
        lazy.dancer(3, 8, 5);
        lazy.dancer(0, 0, 0);
        lazy.after(0, 2);
        lazy.after(1, 2);
        check.due("14: each stays at BEAT 0", lazy.still(), 0);
        lazy.pass(1);
        check.due("14: each goes at BEAT 1", lazy.still(), 1);
        check.due("14: nothing goes", lazy.of(0, 10), 4);
    }

    /** APART: the shorter way in the ring. */
    private static void apartInTheRing() {
        int[] wides = {1, 2, 3, 24, 25, 98, 99};
        for (int wide : wides) {
            TwoBeatsAgo x = at(0, 0);
            Check.hall(x, "wide " + wide);
            for (int away = 0; away < wide; away++) {
                int due = Math.min(away, wide - away);
                for (int place = 0; place < wide; place += 7) {
                    x.begin(0, place);
                    x.begin(1, (place + away) % wide);
                    check.due("16: WIDE " + wide + ", " + away + " away", x.far(0, 1, 0), due);
                    check.due("16: WIDE " + wide + ", " + away + " away", x.far(1, 0, 0), due);
                    check.due("25: WIDE " + wide + ", " + away + " away", x.mean(0, 0), due);
                }
            }
        }
    }

    /** FAR: behind any of 0 .. n. */
    private static void farEnds() {
        TwoBeatsAgo x = at(0, 0);
        Check.hall(x, SLOW);
        for (int n = 0; n <= 60; n++) {
            check.due("16: n " + n, x.far(0, 1, n), (n + 2) / 3);
        }
        TwoBeatsAgo back = at(9, 0);
        Check.hall(back, SLOW);
        for (int n = 0; n <= 60; n++) {
            check.due("16: ahead and behind, n " + n, back.far(0, 1, n), Math.max(9, (n + 2) / 3 - 9));
        }
        check.due("16: NONE, BAD, BAD", x.far(2, 2, -1), -1);
        check.due("16: one is both, n", x.far(0, 0, 61), -2);
        check.due("16: NONE ahead of n", x.far(0, 2, 61), -1);
    }

    /** WHOM: 0 .. 60; of several the first; -5: by nobody. */
    private static void whomEnds() {
        for (int apart = 19; apart <= 22; apart++) {
            TwoBeatsAgo x = at(apart, 0);
            Check.hall(x, SLOW);
            x.after(1, 0);
            // After dancer 0 it is one further than that one for ever; after itself it is there behind 58, or 61.
            check.due("17: after itself, " + apart + " apart", x.whom(1), apart <= 20 ? 1 : -5);
            check.due("17: AFTER stays", x.of(1, 2), 0);
        }
        TwoBeatsAgo all = at(3, 3, 3, 3, 3, 3);
        for (int dancer = 0; dancer < 6; dancer++) {
            check.due("17: of several the first", all.whom(dancer), 0);
        }
        TwoBeatsAgo last = at(0, 1, 2, 3, 4, 5);
        for (int dancer = 0; dancer < 5; dancer++) {
            last.after(dancer, 5);
        }
        check.due("17: by nobody but", last.whom(0), 5);
        check.due("17: each by the last", last.whom(4), 5);
        last.after(0, 0);
        check.due("17: the fixed one stands apart", last.whom(1), -5);
        check.due("17: only itself", last.whom(0), 5);
        last.after(5, 0);
        check.due("17: the last by the first", last.whom(5), 0);
    }

    /** ALONE: n 1 .. 30; behind 1 .. n. */
    private static void aloneEnds() {
        TwoBeatsAgo x = at(5);
        for (int n = 1; n <= 30; n++) {
            check.due("18: one, n " + n, x.alone(0, n, 1), n);
            check.due("18: one, n " + n, x.alone(0, n, 0), 0);
        }
        check.due("18: n 0", x.alone(0, 0, 1), -2);
        check.due("18: n 31", x.alone(0, 31, 1), -2);
        TwoBeatsAgo crowded = at(7, 7, 7, 7, 7, 7);
        for (int dancer = 0; dancer < 6; dancer++) {
            check.due("18: never alone, the first", crowded.alone(dancer, 30, 0), 0);
            check.due("18: never alone", crowded.alone(dancer, 30, 1), 0);
        }
        // Alone behind 28 .. 30 only, when dancer 1 has gone round.
        TwoBeatsAgo late = at(0, 0);
        Check.hall(late, "wide 10;left 1 d=1");
        late.dancer(0, 0, 1);
        for (int n = 1; n <= 30; n++) {
            check.due("18: dancer 2, n " + n, late.alone(2, n, 1), Math.max(0, n - (n < 3 ? n : 3)));
        }
        check.due("18: of 1 and itself the first", late.alone(2, 30, 0), 1);
    }

    /** STOP: 0 .. 10; if less than without. */
    private static void stopEnds() {
        check.due("19: nobody", new TwoBeatsAgo().stop(), -5);
        check.due("19: one", at(4).stop(), -5);
        check.due("19: all there", at(4, 4, 4).stop(), -5);
        // A place is gained at BEAT digit alone; a stop right behind it keeps what it gives.
        for (int ahead = 0; ahead <= 12; ahead++) {
            TwoBeatsAgo x = atBeat(20 - ahead);
            x.dancer(0, 0, 0);
            x.dancer(0, 0, 21);
            Check.hall(x, "left 1 d=1&b=0");
            int due = ahead <= 9 ? ahead + 1 : ahead - 9;
            check.due("19: " + ahead + " ahead of it", x.stop(), due);
        }
    }

    /** BEGIN: n 0 .. 12; each PLACE 0 .. WIDE less 1. */
    private static void beginsEnds() {
        TwoBeatsAgo one = at(5);
        check.due("20: one, anywhere", one.begins(0, 0, 0), 24);
        check.due("20: one, anywhere", one.begins(0, 0, 1), 0);
        Check.hall(one, "wide 99");
        check.due("20: a wide ring", one.begins(0, 12, 0), 99);
        TwoBeatsAgo x = at(0, 23);
        for (int n = 0; n <= 12; n++) {
            check.due("20: the last place, n " + n, x.begins(0, n, 1), 23);
            check.due("20: how many, n " + n, x.begins(0, n, 0), 1);
            check.due("20: the first place, n " + n, x.begins(1, n, 1), 0);
        }
        check.due("20: the places stay", x.of(0, 17), 0);
        Check.hall(x, "wide 1");
        check.due("20: a ring of one place", x.begins(0, 0, 0), 1);
        check.due("20: a ring of one place", x.begins(0, 0, 1), 0);
        Check.hall(x, "wide 99");
        x.begin(1, 98);
        check.due("20: the last of 99", x.begins(0, 0, 1), 98);
        TwoBeatsAgo slow = at(20, 0);
        Check.hall(slow, SLOW);
        for (int n = 0; n <= 12; n++) {
            check.due("20: by " + n, slow.begins(1, n, 0), 1 + (n + 2) / 3);
            check.due("20: the least by " + n, slow.begins(1, n, 1), 20 - (n + 2) / 3);
        }
        // All WAS of it that now: where it was does not matter, nor does it for those behind it.
        TwoBeatsAgo walked = at(9, 3);
        Check.hall(walked, "left 1 d=1&b<3");
        walked.after(0, 1);
        walked.pass(3);
        check.due("20: all WAS", walked.begins(1, 3, 0), 24);
    }

    /** CROWD: n 0 .. 40; of several the least. */
    private static void crowdEnds() {
        TwoBeatsAgo nobody = new TwoBeatsAgo();
        for (int n = 0; n <= 40; n++) {
            check.due("21: nobody, n " + n, nobody.crowd(n), -5);
        }
        // What is refused is so whoever is there.
        check.due("21: nobody, n 41", nobody.crowd(41), -2);
        check.due("21: nobody, n -1", nobody.crowd(-1), -2);
        TwoBeatsAgo x = at(23, 0, 23, 0);
        check.due("21: two and two", x.crowd(40), 0);
        x.begin(1, 1);
        check.due("21: two and one", x.crowd(40), 23);
        x.begin(2, 1);
        check.due("21: the least of 0, 1, 23", x.crowd(0), 1);
        TwoBeatsAgo slow = at(0, 0);
        Check.hall(slow, SLOW);
        slow.begin(0, 98);
        check.due("21: once each", slow.crowd(0), 0);
        check.due("21: each counted each time", slow.crowd(1), 98);
        Check.hall(slow, "wide 13;left 1 d<2");
        slow.begin(0, 0);
        slow.begin(1, 0);
        // 0 behind 0, 37, 38, 39; 1 behind 1, 2, 3, and 40.
        check.due("21: behind 36", slow.crowd(36), 1);
        check.due("21: behind 38", slow.crowd(38), 0);
        check.due("21: behind 39", slow.crowd(39), 0);
        check.due("21: behind 40", slow.crowd(40), 0);
        slow.pass(1);
        check.due("21: from a BEAT later, behind 38", slow.crowd(38), 0);
        check.due("21: from a BEAT later, behind 39", slow.crowd(39), 1);
    }
}
