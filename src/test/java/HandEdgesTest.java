/** The edges that parts 2 and 3 of the terms and promises 22 to 40 name: told by hand, odds, acts, tapes. */
public final class HandEdgesTest {
    private static final Check check = new Check();
    private static final long NO = TwoBeatsAgo.NO;
    private static final int[] FAR_OFF = {-1000, Integer.MIN_VALUE, Integer.MIN_VALUE + 10, 1000, Integer.MAX_VALUE};
    private static final int[] NUMBERS = {
        0, 1, -1, 5, -6, 715827882, 715827883, 1073741823, 1073741824, -1073741825,
        Integer.MAX_VALUE - 1, Integer.MAX_VALUE, Integer.MIN_VALUE, Integer.MIN_VALUE + 1
    };

    public static void main(String[] args) {
        farOff();
        seeEnds();
        canBits();
        oddsEnds();
        meanEnds();
        danceEnds();
        danceRounds();
        bookEnds();
        judgeEnds();
        judgeFinds();
        imageEnds();
        actsWrap();
        actEnds();
        takenEnds();
        countEnds();
        tapeEnds();
        itemEnds();
        shiftEnds();
        shiftOverlaps();
        check.end("HandEdgesTest");
    }

    private static TwoBeatsAgo at(int... places) {
        TwoBeatsAgo x = new TwoBeatsAgo();
        for (int place : places) {
            x.dancer(0, 0, place);
        }
        return x;
    }

    private static void farOff() {
        TwoBeatsAgo x = at(1, 2);
        x.tape(0, 0, 5);
        x.act(0, 0, 0);
        for (int far : FAR_OFF) {
            check.due("22: dancer " + far, x.see(far, 0, 0), -1);
            check.due("22: place " + far, x.see(0, far, 0), -2);
            check.due("22: n " + far, x.see(0, 0, far), -2);
            check.due("23: dancer " + far, x.can(far), -1);
            check.due("24: n " + far, x.odds(far, 0), NO);
            check.due("24: part " + far, x.odds(0, far), NO);
            check.due("25: n " + far, x.mean(far, 0), NO);
            check.due("25: part " + far, x.mean(0, far), NO);
            check.due("26: what " + far, x.dance(far), -1);
            check.due("27: what " + far, x.danced(far), -1);
            check.due("28: dancer " + far, x.book(far, 0), -1);
            check.due("28: place " + far, x.book(0, far), -2);
            check.due("30: tape " + far, x.judge(far, 0), -1);
            check.due("30: place " + far, x.judge(0, far), 100);
            check.due("34: i " + far, x.trace(far), -1);
            check.due("35: k " + far, x.taken(0, far), -2);
            check.due("35: dancer " + far, x.taken(far, 0), -11);
            check.due("36: what " + far, x.count(far), -2);
            check.due("37: tape " + far, x.tape(far, 0, 1), -1);
            check.due("37: sort " + far, x.tape(0, far, 1), -2);
            check.due("37: n " + far, x.tape(0, 0, far), far < 0 ? -14 : -2);
            check.due("38: tape " + far, x.item(far, 0, 1), -1);
            check.due("38: place " + far, x.item(0, far, 1), -13);
            check.due("39: tape " + far, x.read(far, 0), NO);
            check.due("39: place " + far, x.read(0, far), NO);
            shiftFarOff(x, far);
        }
        for (int far : FAR_OFF) {
            x.act(0, 0, 0);
            check.due("33: dancer " + far, x.act(far, 0, 7), 0);
            check.due("33: no TRACE by dancer " + far, x.count(6), 0);
            x.act(0, 0, 0);
            check.due("33: act " + far, x.act(0, far, 7), 0);
            check.due("33: no TRACE by act " + far, x.count(6), 0);
        }
        check.due("22: none seen", x.count(2), 0);
        check.due("26: no dance", x.count(3), 0);
        check.due("28: no book", x.count(4), 0);
    }

    private static void shiftFarOff(TwoBeatsAgo x, int far) {
        check.due("40: tape " + far, x.shift(far, 0, 0, 0, 1), -1);
        check.due("40: other " + far, x.shift(0, 0, far, 0, 1), -1);
        check.due("40: i " + far, x.shift(0, far, 0, 0, 1), -13);
        check.due("40: j " + far, x.shift(0, 0, 0, far, 1), -13);
        check.due("40: n " + far, x.shift(0, 0, 0, 0, far), -13);
        check.due("40: i, n " + far, x.shift(0, far, 0, 0, far), -13);
        check.due("40: j, n " + far, x.shift(0, 0, 0, far, far), -13);
        check.due("40: i, j, none " + far, x.shift(0, far, 0, far, 0), -13);
    }

    /** SEEN: a PLACE 0 .. 98 whatever WIDE is, n 0 .. 12, 5 at most; dancer -1: none then. */
    private static void seeEnds() {
        int[] wides = {1, 24, 99};
        for (int wide : wides) {
            TwoBeatsAgo x = at(0);
            Check.hall(x, "wide " + wide);
            check.due("22: place 0", x.see(0, 0, 0), 1);
            check.due("22: place 98", x.see(0, 98, 0), 2);
            check.due("22: place 99", x.see(0, 99, 0), -2);
            check.due("22: place -1", x.see(0, -1, 0), -2);
            check.due("22: n 12", x.see(0, 0, 12), 3);
            check.due("22: n 13", x.see(0, 0, 13), -2);
            check.due("22: n -1", x.see(0, 0, -1), -2);
            check.due("22: three", x.count(2), 3);
            x.see(0, 0, 0);
            check.due("22: the fifth", x.see(0, 0, 0), 5);
            check.due("22: the sixth", x.see(0, 0, 0), -4);
            check.due("22: dancer, six", x.see(1, 0, 0), -1);
            check.due("22: dancer, place, n, six", x.see(-2, 99, 13), -1);
            check.due("22: place, six", x.see(0, 99, 0), -2);
            check.due("22: n, six", x.see(0, 0, -1), -2);
            check.due("22: five stay", x.count(2), 5);
            check.due("22: none then", x.see(-1, -1, -1), 0);
            check.due("22: none is left", x.count(2), 0);
            check.due("22: none then, of none", x.see(-1, 5, 5), 0);
            check.due("22: the first", x.see(0, 0, 0), 1);
        }
        TwoBeatsAgo nobody = new TwoBeatsAgo();
        check.due("22: nobody", nobody.see(0, 0, 0), -1);
        check.due("22: nobody, none then", nobody.see(-1, 0, 0), 0);
    }

    /** CAN: as bits, all if nothing is SEEN; behind 0 .. 12 from now. */
    private static void canBits() {
        TwoBeatsAgo x = new TwoBeatsAgo();
        for (int dancers = 0; dancers <= 6; dancers++) {
            check.due("23: no such dancer of " + dancers, x.can(dancers), -1);
            for (int dancer = 0; dancer < dancers; dancer++) {
                check.due("23: nothing is SEEN, of " + dancers, x.can(dancer), (1 << dancers) - 1);
            }
            x.dancer(0, 0, dancers);
        }
        for (int other = 0; other < 6; other++) {
            x.see(-1, 0, 0);
            x.see(0, other, 1);
            check.due("23: after " + other, x.can(0), 1 << other);
            x.see(0, other, 12);
            check.due("23: after " + other + ", behind 12", x.can(0), 1 << other);
            x.see(0, (other + 1) % 6, 12);
            check.due("23: not two places at once", x.can(0), 0);
        }
        // A walker at place k behind 3k - 2 .. 3k: at 4 behind 10, 11, 12.
        for (int n = 0; n <= 12; n++) {
            TwoBeatsAgo walker = at(0);
            Check.hall(walker, "left 1 d=0");
            walker.see(0, 4, n);
            check.due("23: seen at 4 behind " + n, walker.can(0), n >= 10 ? 1 : 0);
        }
        // All five of SEEN are looked at.
        for (int wrong = 0; wrong < 5; wrong++) {
            TwoBeatsAgo five = at(7);
            for (int i = 0; i < 5; i++) {
                five.see(0, i == wrong ? 8 : 7, 3 * i);
            }
            check.due("23: not so in " + wrong, five.can(0), 0);
        }
    }

    private static void fraction(String name, long above, long below, int dueAbove, int dueBelow) {
        check.due(name + ", above", above, dueAbove);
        check.due(name + ", below", below, dueBelow);
    }

    /** ODDS: n 0 .. 30; a fraction in lowest terms; NO: nobody is there. */
    private static void oddsEnds() {
        TwoBeatsAgo nobody = new TwoBeatsAgo();
        for (int part = -1; part <= 2; part++) {
            check.due("24: nobody, part " + part, nobody.odds(0, part), NO);
            check.due("24: nobody, part " + part, nobody.odds(31, part), NO);
        }
        for (int n = 0; n <= 30; n++) {
            fraction("24: one, n " + n, at(3).odds(n, 0), at(3).odds(n, 1), 1, 1);
            fraction("24: two apart, n " + n, at(3, 4).odds(n, 0), at(3, 4).odds(n, 1), 0, 1);
        }
        int[] above = {0, 1, 1, 1, 2, 5};
        int[] below = {1, 6, 3, 2, 3, 6};
        // Whoever stands apart must go after dancer 0; whoever already is there may go after itself.
        for (int there = 1; there <= 5; there++) {
            TwoBeatsAgo x = at(9, 9, 9, 9, 9, 9);
            for (int dancer = there; dancer < 6; dancer++) {
                x.begin(dancer, dancer);
                x.after(dancer, 0);
            }
            fraction("24: " + there + " of six there", x.odds(30, 0), x.odds(30, 1), above[there], below[there]);
            check.due("24: part -1", x.odds(30, -1), NO);
            check.due("24: part 2", x.odds(30, 2), NO);
            check.due("24: n 31", x.odds(31, 0), NO);
            check.due("24: n -1", x.odds(-1, 1), NO);
        }
        fraction("24: all there", at(9, 9, 9, 9, 9, 9).odds(0, 0), at(9, 9, 9, 9, 9, 9).odds(0, 1), 1, 1);
        for (int apart = 0; apart <= 11; apart++) {
            TwoBeatsAgo x = at(apart, 0);
            Check.hall(x, "left 1 d=1");
            for (int n = 0; n <= 30; n++) {
                fraction("24: " + apart + " apart, n " + n, x.odds(n, 0), x.odds(n, 1), apart == 0 || 3 * apart - 2 <= n ? 1 : 0, 1);
            }
        }
    }

    /** MEAN: n 0 .. 60; a fraction in lowest terms; NO: there are fewer than two. */
    private static void meanEnds() {
        for (int part = -1; part <= 2; part++) {
            check.due("25: nobody, part " + part, new TwoBeatsAgo().mean(0, part), NO);
            check.due("25: one, part " + part, at(4).mean(0, part), NO);
            check.due("25: two, part " + part, at(4, 7).mean(0, part), part == 0 ? 3 : part == 1 ? 1 : NO);
            check.due("25: two, n 61, part " + part, at(4, 7).mean(61, part), NO);
            check.due("25: two, n -1, part " + part, at(4, 7).mean(-1, part), NO);
        }
        // One of six away by d: five twos of fifteen.
        for (int away = 0; away <= 23; away++) {
            TwoBeatsAgo x = at(0, 0, 0, 0, 0, away);
            int apart = Math.min(away, 24 - away);
            boolean whole = apart % 3 == 0;
            fraction("25: one of six is " + away + " away", x.mean(60, 0), x.mean(60, 1), whole ? apart / 3 : apart, whole ? 1 : 3);
        }
        TwoBeatsAgo x = at(0, 0);
        Check.hall(x, "wide 99;left 1 d=1");
        for (int n = 0; n <= 60; n++) {
            fraction("25: n " + n, x.mean(n, 0), x.mean(n, 1), (n + 2) / 3, 1);
        }
    }

    /** A DANCE: 0 .. 2, 10 at most; -1: it is empty then. */
    private static void danceEnds() {
        TwoBeatsAgo x = at(0, 0, 0, 0, 0, 0);
        for (int what = -4; what <= 5; what++) {
            TwoBeatsAgo bare = new TwoBeatsAgo();
            check.due("26: dance(" + what + ")", bare.dance(what), what == -1 ? 0 : what >= 0 && what <= 2 ? 1 : -1);
        }
        Check.hall(x, "left 1 d=0&b<9|d=1&b=9");
        for (int count = 1; count <= 10; count++) {
            check.due("26: the " + count, x.dance(0), count);
            check.due("27: behind " + count, x.danced(10), x.on(count, 10));
            check.due("27: behind " + count, x.danced(11), x.on(count, 11));
        }
        check.due("27: the tenth too", x.danced(11), 1);
        check.due("26: the eleventh", x.dance(0), -4);
        check.due("26: NONE ahead of FULL", x.dance(3), -1);
        check.due("26: NONE ahead of FULL", x.dance(-2), -1);
        check.due("26: ten stay", x.count(3), 10);
        check.due("27: as it was", x.danced(11), 1);
        check.due("26: empty then", x.dance(-1), 0);
        check.due("27: nothing goes", x.danced(10), 0);
        check.due("26: empty, of an empty one", x.dance(-1), 0);
        check.due("26: the first", x.dance(1), 1);
        for (int dancers = 0; dancers <= 6; dancers++) {
            TwoBeatsAgo some = new TwoBeatsAgo();
            for (int dancer = 0; dancer < dancers; dancer++) {
                some.dancer(0, 0, dancer);
            }
            for (int what = -3; what <= 20; what++) {
                boolean isDancer = what >= 10 && what < 10 + dancers;
                check.due("27: what " + what + " of " + dancers, some.danced(what), what == 0 ? dancers : isDancer ? what - 10 : -1);
            }
        }
    }

    /** Each goes AFTER the next one by numbers, the last AFTER the first; no BEAT goes. */
    private static void danceRounds() {
        for (int dancers = 1; dancers <= 6; dancers++) {
            TwoBeatsAgo x = new TwoBeatsAgo();
            for (int dancer = 0; dancer < dancers; dancer++) {
                x.dancer(0, 0, 3 * dancer);
            }
            for (int times = 1; times <= 9; times++) {
                x.dance(2);
                check.due("27: no BEAT goes", x.danced(10), 0);
            }
            x.dance(0);
            for (int dancer = 0; dancer < dancers; dancer++) {
                check.due("27: " + dancer + " of " + dancers, x.danced(10 + dancer), 3 * ((dancer + 1) % dancers));
                check.due("27: AFTER stays", x.of(dancer, 2), dancer);
            }
            check.due("27: places of " + dancers, x.danced(0), dancers);
        }
        TwoBeatsAgo x = at(0, 5);
        Check.hall(x, "left 1 b=0");
        x.dance(2);
        x.dance(2);
        x.dance(0);
        check.due("27: at BEAT 0", x.danced(10), 6);
        check.due("27: at BEAT 0", x.danced(11), 1);
    }

    /** A BOOK: a PLACE 0 .. 98 whatever WIDE is; 8 at most; dancer -1: it is empty then. */
    private static void bookEnds() {
        TwoBeatsAgo x = at(0, 0);
        Check.hall(x, "wide 3");
        check.due("28: place 98", x.book(0, 98), 1);
        check.due("28: place 99", x.book(0, 99), -2);
        check.due("28: place -1", x.book(0, -1), -2);
        check.due("28: no such dancer", x.book(2, 0), -1);
        check.due("28: no such dancer", x.book(-2, 0), -1);
        check.due("28: empty then", x.book(-1, -1), 0);
        for (int count = 1; count <= 8; count++) {
            check.due("28: the " + count, x.book(1, 0), count);
            check.due("29: all so", x.looked(), -5);
        }
        check.due("28: the ninth", x.book(1, 0), -4);
        check.due("28: dancer, nine", x.book(2, 0), -1);
        check.due("28: place, nine", x.book(1, 99), -2);
        check.due("28: eight stay", x.count(4), 8);
        check.due("28: empty then", x.book(-1, 99), 0);
        check.due("29: no rows", x.looked(), -5);
        check.due("28: empty, of an empty one", x.book(-1, 0), 0);
        check.due("28: nobody", new TwoBeatsAgo().book(0, 0), -1);
        check.due("28: nobody, empty then", new TwoBeatsAgo().book(-1, 0), 0);
        check.due("29: nobody", new TwoBeatsAgo().looked(), -5);
        for (int wrong = 0; wrong < 8; wrong++) {
            TwoBeatsAgo y = at(4, 5);
            for (int row = 0; row < 8; row++) {
                y.book(row % 2, row >= wrong ? 6 : 4 + row % 2);
            }
            check.due("29: the first is row " + wrong, y.looked(), wrong);
        }
    }

    private static TwoBeatsAgo standing(int dancers, int place) {
        TwoBeatsAgo x = new TwoBeatsAgo();
        Check.hall(x, "wide 99");
        for (int dancer = 0; dancer < dancers; dancer++) {
            x.dancer(0, 0, place);
        }
        return x;
    }

    /** The row ends ahead, the place is below 0, the TAPE holds nothing; none to look at. */
    private static void judgeEnds() {
        for (int dancers = 0; dancers <= 6; dancers++) {
            TwoBeatsAgo x = standing(dancers, 0);
            int all = 8 * dancers;
            for (int length = 0; length <= 60; length++) {
                x.tape(5, 0, length);
                String name = "30: " + dancers + " dancers, " + length + " bytes";
                check.due(name, x.judge(5, 0), length >= all ? -5 : 100 + length);
                check.due(name + ", from 12", x.judge(5, 12), dancers == 0 || length >= all + 12 ? -5 : 100 + Math.max(0, length - 12));
                check.due(name + ", from the end", x.judge(5, length), dancers == 0 ? -5 : 100);
                check.due(name + ", from -1", x.judge(5, -1), dancers == 0 ? -5 : 100);
            }
            x.tape(5, -1, 0);
            check.due("30: nothing, " + dancers + " dancers", x.judge(5, 0), dancers == 0 ? -5 : 100);
            check.due("30: nothing from -1, " + dancers + " dancers", x.judge(5, -1), dancers == 0 ? -5 : 100);
            for (int sort = 1; sort <= 4; sort++) {
                x.tape(5, sort, 60);
                check.due("30: sort " + sort + ", " + dancers + " dancers", x.judge(5, 0), -12);
                check.due("30: sort " + sort + " from -1", x.judge(5, -1), -12);
                check.due("30: sort " + sort + " from 61", x.judge(5, 61), -12);
            }
            check.due("30: tape 6", x.judge(6, 0), -1);
            check.due("30: tape -1", x.judge(-1, 0), -1);
        }
    }

    /** The first item that is otherwise, of each DANCER and each WAS. */
    private static void judgeFinds() {
        TwoBeatsAgo x = standing(6, 98);
        x.tape(0, 0, 60);
        for (int i = 0; i < 60; i++) {
            x.item(0, i, 98);
        }
        check.due("30: all so", x.judge(0, 12), -5);
        check.due("30: the row ends", x.judge(0, 13), 147);
        for (int i = 47; i >= 0; i--) {
            x.item(0, i + 12, i % 3 == 0 ? 97 : i % 3 == 1 ? -98 : 98 + 128);
            check.due("30: item " + i, x.judge(0, 12), i / 8 * 10 + i % 8);
        }
    }

    /** THE IMAGE: taken of nobody too; the newest; STATE without. */
    private static void imageEnds() {
        TwoBeatsAgo x = new TwoBeatsAgo();
        check.due("32: none", x.undo(), -3);
        for (int dancers = 0; dancers <= 6; dancers++) {
            check.due("31: " + dancers, x.image(), dancers);
            check.due("32: " + dancers, x.undo(), dancers);
            check.due("32: again " + dancers, x.undo(), dancers);
            check.due("2: the next", x.dancer(0, 0, 0), dancers < 6 ? dancers : -4);
            check.due("32: without the next", x.undo(), dancers);
            check.due("3: it is gone", x.of(dancers, 0), -1001);
            x.dancer(0, 0, 0);
        }
        // What was of a dancer that is gone goes with it.
        TwoBeatsAgo y = at(3);
        y.image();
        y.dancer(6, 2, 5);
        y.after(0, 1);
        y.see(1, 5, 0);
        y.book(1, 5);
        y.book(1, 6);
        check.due("32: one", y.undo(), 1);
        check.due("32: AFTER", y.of(0, 2), 0);
        check.due("32: nothing SEEN", y.count(2), 0);
        check.due("32: no BOOK", y.count(4), 0);
        check.due("32: looked at", y.looked(), -5);
        check.due("23: all", y.can(0), 1);
        Check.hall(y, "wide 2");
        check.due("32: another HALL", y.of(0, 10), 1);
        y.undo();
        check.due("32: the place ahead of it", y.of(0, 10), 3);
        check.due("32: no HALL holds", y.told(1), 24);
        check.due("32: HALLS stay", y.count(1), 1);
        y.pass(60);
        y.undo();
        check.due("32: BEAT", y.told(0), 0);
    }

    private static int[] actsOf(int kind, int v, int i, int x) {
        int steps = x + i;
        switch (kind) {
            case 1: return new int[] {steps, (steps - v) ^ 6, ((steps - v) ^ 6) * 2};
            case 2: return new int[] {x * 3 + i, x * 3 + i - v, (x * 3 + i - v) * 2};
            case 3: return new int[] {steps, steps - v, (steps - v) * 2 + (1 + i - v)};
            case 4: {
                int turns = (-(x + 1 + i) - v) ^ 6;
                return new int[] {-steps, turns, turns * 2};
            }
            case 5: return new int[] {x * 3 + i, x * 3 + i - v, ((x - i) * 3 + i - v) * 2};
            case 6: {
                int turns = (steps ^ v) - v + 2 + i;
                int turnsOfOne = ((1 + i) ^ v) - v + 2 + i;
                return new int[] {steps ^ v, turns, turns * 2 + turnsOfOne};
            }
            default: return new int[] {steps, steps - v, (steps - v) * 2};
        }
    }

    /** ACTS, wrapping: each KIND, v and number with numbers around the ends of int. */
    private static void actsWrap() {
        for (int kind = 0; kind <= 6; kind++) {
            for (int v = 0; v <= 9; v++) {
                TwoBeatsAgo x = new TwoBeatsAgo();
                for (int i = 0; i < 6; i++) {
                    x.dancer(kind, v, 0);
                }
                for (int number : NUMBERS) {
                    for (int act = 0; act < 3; act++) {
                        String name = "33: KIND " + kind + ", v " + v + ", act " + act + " with " + number;
                        check.due(name + ", number 0", x.act(0, act, number), actsOf(kind, v, 0, number)[act]);
                        check.due(name + ", number 5", x.act(5, act, number), actsOf(kind, v, 5, number)[act]);
                    }
                }
            }
        }
    }

    /** 0, and no TRACE then: no such DANCER, act. The bodies that ran: 1 .. 12 of them. */
    private static void actEnds() {
        int[][] bodies = {{1, 2, 3}, {1, 3, 4}, {2, 3, 4}, {1, 2, 6}, {2, 5, 6}, {2, 3, 5}, {2, 5, 12}};
        for (int kind = 0; kind <= 6; kind++) {
            TwoBeatsAgo x = new TwoBeatsAgo();
            check.due("33: nobody", x.act(0, 0, 9), 0);
            check.due("33: nobody, no TRACE", x.count(6), 0);
            x.dancer(kind, 1, 0);
            for (int act = 0; act < 3; act++) {
                x.act(0, act, 9);
                check.due("36: bodies of act " + act + " of KIND " + kind, x.count(6), bodies[kind][act]);
                for (int i = -2; i <= 22; i++) {
                    boolean is = i >= 0 && i < bodies[kind][act];
                    check.due("34: body " + i + " of act " + act + " of KIND " + kind, x.trace(i) == -1 ? 0 : 1, is ? 1 : 0);
                }
                int[][] wrong = {{1, act}, {-1, act}, {0, 3}, {0, -1}, {6, 3}};
                x.act(0, act, 9);
                check.due("33: no such one", x.act(wrong[act][0], wrong[act][1], 9), 0);
                check.due("36: none", x.count(6), 0);
                check.due("34: none", x.trace(0), -1);
                x.act(0, act, 9);
                check.due("33: no such one", x.act(wrong[act + 2][0], wrong[act + 2][1], 9), 0);
                check.due("36: none", x.count(6), 0);
                check.due("34: none", x.trace(0), -1);
            }
        }
    }

    private static void takenEnds() {
        TwoBeatsAgo x = new TwoBeatsAgo();
        int[] above = {-1, 0, 0, 0, 1, 2, 3};
        check.due("35: nobody, BAD first", x.taken(0, 7), -2);
        check.due("35: nobody", x.taken(0, 0), -11);
        x.dancer(0, 0, 0);
        for (int kind = 1; kind <= 5; kind++) {
            x.dancer(kind, 0, 0);
        }
        for (int dancer = 0; dancer <= 5; dancer++) {
            for (int k = -2; k <= 9; k++) {
                boolean under = false;
                for (int kind = dancer; kind >= 0; kind = above[kind]) {
                    under |= kind == k;
                }
                check.due("35: taken(" + dancer + ", " + k + ")", x.taken(dancer, k), k < 0 || k > 6 ? -2 : under ? dancer : -12);
            }
        }
        check.due("35: a seventh", x.taken(6, 6), -11);
        check.due("35: BAD ahead of NOTHING", x.taken(6, -1), -2);
        check.due("35: one below", x.taken(-1, 0), -11);
    }

    private static void countEnds() {
        TwoBeatsAgo x = new TwoBeatsAgo();
        for (int what = -4; what <= 10; what++) {
            check.due("36: count(" + what + ")", x.count(what), what >= 0 && what <= 6 ? 0 : -2);
        }
        for (int i = 0; i < 12; i++) {
            x.dancer(6, 0, 0);
            x.see(0, 0, 0);
            x.dance(0);
            x.book(0, 0);
            Check.hall(x, "wide 24");
        }
        int[] most = {6, 6, 5, 10, 8, 42, 0};
        for (int what = 0; what <= 6; what++) {
            check.due("36: the most, " + what, x.count(what), most[what]);
        }
    }

    /** TAPES 0 .. 5; n 0 .. 60; sorts -1 .. 4; NONE, BAD, SIZE in this order. */
    private static void tapeEnds() {
        for (int tape = 0; tape <= 5; tape++) {
            TwoBeatsAgo x = new TwoBeatsAgo();
            check.due("37: nothing at first", x.item(tape, 0, 0), -11);
            check.due("39: nothing at first", x.read(tape, 0), NO);
            for (int sort = 0; sort <= 4; sort++) {
                for (int n = 0; n <= 60; n += 12) {
                    check.due("37: tape(" + tape + ", " + sort + ", " + n + ")", x.tape(tape, sort, n), 1);
                    for (int i = 0; i < n; i++) {
                        check.due("37: all 0", x.read(tape, i), 0);
                        x.item(tape, i, 1);
                    }
                    check.due("37: its end", x.read(tape, n), NO);
                    check.due("37: its end", x.item(tape, n, 1), -13);
                    check.due("37: n 61", x.tape(tape, sort, 61), -2);
                    check.due("37: n -1", x.tape(tape, sort, -1), -14);
                    check.due("37: sort 5", x.tape(tape, 5, n), -2);
                    check.due("37: sort -2", x.tape(tape, -2, n), -2);
                    check.due("37: the row stays", x.read(tape, n - 1), n == 0 ? NO : 1);
                }
            }
            check.due("37: sort, SIZE", x.tape(tape, 5, -1), -2);
            check.due("37: sort, SIZE", x.tape(tape, -2, -1), -2);
            check.due("37: nothing, n 61", x.tape(tape, -1, 61), 1);
            check.due("37: nothing, n -1", x.tape(tape, -1, -1), 1);
            check.due("37: nothing", x.item(tape, 0, 0), -11);
            check.due("37: nothing", x.shift(tape, 0, tape, 0, 0), -11);
        }
        TwoBeatsAgo x = new TwoBeatsAgo();
        check.due("37: tape, sort, n", x.tape(6, 5, 61), -1);
        check.due("37: tape, SIZE", x.tape(-1, 0, -1), -1);
        check.due("37: tape, nothing", x.tape(6, -1, 0), -1);
        x.tape(0, 0, 3);
        x.item(0, 2, 7);
        x.tape(1, 0, 3);
        check.due("37: the other row stays", x.read(0, 2), 7);
    }

    /** Its lowest bits, as many as an item has. */
    private static void itemEnds() {
        long[] values = {
            0, 1, -1, 127, 128, -128, -129, 255, 256, 32767, 32768, -32768, -32769, 65536, 2147483647L, 2147483648L,
            -2147483648L, -2147483649L, 4294967296L, Long.MAX_VALUE, Long.MIN_VALUE, Long.MIN_VALUE + 1
        };
        TwoBeatsAgo x = new TwoBeatsAgo();
        for (int sort = 0; sort <= 4; sort++) {
            x.tape(sort, sort, 60);
        }
        for (long v : values) {
            for (int i = 0; i < 60; i += 59) {
                for (int sort = 0; sort <= 4; sort++) {
                    check.due("38: " + v + " as sort " + sort, x.item(sort, i, v), 1);
                }
                check.due("39: byte of " + v, x.read(0, i), (byte) v);
                check.due("39: short of " + v, x.read(1, i), (short) v);
                check.due("39: int of " + v, x.read(2, i), (int) v);
                check.due("39: long of " + v, x.read(3, i), v);
                check.due("39: boolean of " + v, x.read(4, i), v == 0 ? 0 : 1);
            }
        }
        for (int sort = 0; sort <= 4; sort++) {
            check.due("38: place 60", x.item(sort, 60, 1), -13);
            check.due("38: place -1", x.item(sort, -1, 1), -13);
            check.due("39: place 60", x.read(sort, 60), NO);
            check.due("39: place -1", x.read(sort, -1), NO);
        }
        check.due("38: tape, nothing, place", x.item(6, -1, 1), -1);
        check.due("38: tape, nothing, place", x.item(-1, 60, 1), -1);
        check.due("38: nothing, place", x.item(5, 60, 1), -11);
        check.due("39: tape", x.read(6, 0), NO);
    }

    private static TwoBeatsAgo rows() {
        TwoBeatsAgo x = new TwoBeatsAgo();
        x.tape(0, 3, 60);
        x.tape(1, 3, 7);
        x.tape(2, 3, 0);
        x.tape(3, 2, 60);
        for (int i = 0; i < 60; i++) {
            x.item(0, i, 100 + i);
        }
        return x;
    }

    /** PLACE: n, i or j is below 0, or beyond either's end; NONE, NOTHING, CAST ahead of it. */
    private static void shiftEnds() {
        for (int i = -1; i <= 61; i++) {
            for (int n = -1; n <= 61; n += i % 20 == 0 ? 1 : 31) {
                boolean is = i >= 0 && n >= 0 && i + n <= 60;
                TwoBeatsAgo x = rows();
                check.due("40: " + n + " from " + i, x.shift(0, i, 0, 0, n), is ? n : -13);
                check.due("40: " + n + " to " + i, x.shift(0, 0, 0, i, n), is ? n : -13);
            }
        }
        TwoBeatsAgo x = rows();
        for (int j = -1; j <= 8; j++) {
            for (int n = -1; n <= 8; n++) {
                boolean is = j >= 0 && n >= 0 && j + n <= 7;
                check.due("40: " + n + " to " + j + " of seven", x.shift(0, 9, 1, j, n), is ? n : -13);
                check.due("40: " + n + " from " + j + " of seven", x.shift(1, j, 0, 9, n), is ? n : -13);
            }
        }
        check.due("40: none of none", x.shift(2, 0, 2, 0, 0), 0);
        check.due("40: none to none", x.shift(0, 60, 2, 0, 0), 0);
        check.due("40: one to none", x.shift(0, 0, 2, 0, 1), -13);
        check.due("40: one of none", x.shift(2, 0, 0, 0, 1), -13);
        check.due("40: tape, nothing, sort, place", x.shift(-1, -1, 4, 0, -1), -1);
        check.due("40: other, nothing, place", x.shift(4, -1, 6, 0, -1), -1);
        check.due("40: nothing, place", x.shift(4, -1, 0, 0, -1), -11);
        check.due("40: to nothing, place", x.shift(0, -1, 4, 0, 61), -11);
        check.due("40: nothing to nothing", x.shift(4, 0, 5, 0, 0), -11);
        check.due("40: sort, place", x.shift(0, -1, 3, 61, -1), -12);
        check.due("40: sort, none", x.shift(3, 0, 0, 0, 0), -12);
        for (int one = 0; one <= 4; one++) {
            for (int other = 0; other <= 4; other++) {
                x.tape(4, one, 2);
                x.tape(5, other, 2);
                check.due("40: sort " + one + " to " + other, x.shift(4, 0, 5, 0, 2), one == other ? 2 : -12);
            }
        }
    }

    /** As they all were before. */
    private static void shiftOverlaps() {
        for (int i = 0; i <= 60; i += 12) {
            for (int j = 0; j <= 60; j += 10) {
                int n = 60 - Math.max(i, j);
                TwoBeatsAgo x = rows();
                check.due("40: shift(0, " + i + ", 0, " + j + ", " + n + ")", x.shift(0, i, 0, j, n), n);
                for (int k = 0; k < 60; k++) {
                    long due = k >= j && k < j + n ? 100 + i + k - j : 100 + k;
                    check.due("40: item " + k, x.read(0, k), due);
                }
            }
        }
        TwoBeatsAgo x = rows();
        check.due("40: refused", x.shift(0, 0, 1, 1, 7), -13);
        for (int k = 0; k < 7; k++) {
            check.due("40: nothing came", x.read(1, k), 0);
        }
        check.due("40: seven", x.shift(0, 53, 1, 0, 7), 7);
        for (int k = 0; k < 7; k++) {
            check.due("40: what came", x.read(1, k), 153 + k);
            check.due("40: what it came from stays", x.read(0, 53 + k), 153 + k);
        }
    }
}
