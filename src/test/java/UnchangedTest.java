import java.util.List;

/**
 * What is refused changes nothing; what is asked changes nothing. Two objects are made by the same
 * calls, one of them gets the call besides, and then all that can be told of both must be the same.
 */
public final class UnchangedTest {
    private static final Check check = new Check();
    private static final long NO = TwoBeatsAgo.NO;
    private static final int ANY = Integer.MIN_VALUE + 77;

    private interface Made {
        TwoBeatsAgo make();
    }

    private interface Call {
        long on(TwoBeatsAgo x);
    }

    public static void main(String[] args) {
        List<Made> all = List.of(UnchangedTest::bare, UnchangedTest::some, UnchangedTest::full, UnchangedTest::late);
        for (int i = 0; i < all.size(); i++) {
            String name = List.of("bare", "some", "full", "late").get(i);
            refusedEverywhere(name, all.get(i));
            asked(name, all.get(i));
        }
        refusedBare(UnchangedTest::bare);
        refusedSome("some", UnchangedTest::some);
        refusedSome("full", UnchangedTest::full);
        refusedSome("late", UnchangedTest::late);
        refusedTapes("some", UnchangedTest::some);
        refusedTapes("full", UnchangedTest::full);
        refusedFull(UnchangedTest::full);
        refusedLate(UnchangedTest::late);
        alike();
        check.end("UnchangedTest");
    }

    private static TwoBeatsAgo bare() {
        return new TwoBeatsAgo();
    }

    private static void feed(TwoBeatsAgo x, String text) {
        for (int i = 0; i < text.length(); i++) {
            x.feed(text.charAt(i));
        }
    }

    /** Five dancers, the last one TOLD, a hall that skips, an image of another state, half a text. */
    private static TwoBeatsAgo some() {
        TwoBeatsAgo x = new TwoBeatsAgo();
        Check.hall(x, "wide 40;left 1 d=0|b=3");
        dancers(x, 5);
        x.pass(9);
        x.see(1, 3, 2);
        x.dance(2);
        x.book(1, 7);
        x.image();
        Check.hall(x, "left 2 d<2|b=1;wide 30;skip 7");
        told(x);
        feed(x, "left 3 d=");
        return x;
    }

    private static void dancers(TwoBeatsAgo x, int many) {
        int[] kinds = {0, 1, 2, 4, 6, 3};
        for (int dancer = 0; dancer < many; dancer++) {
            x.dancer(kinds[dancer], 3 + dancer, 4 * dancer);
        }
        for (int dancer = 0; dancer < many; dancer++) {
            x.after(dancer, (dancer + 2) % many);
        }
        x.row(4, 1, 6);
    }

    private static void told(TwoBeatsAgo x) {
        x.pass(5);
        x.begin(0, 11);
        x.row(4, 2, 9);
        x.see(2, x.on(3, 12), 3);
        x.dance(0);
        x.dance(1);
        x.book(0, 11);
        x.book(1, 12);
        for (int sort = 0; sort <= 4; sort++) {
            x.tape(sort, sort, 4);
            x.item(sort, 1, 1 + sort);
            x.item(sort, 3, 7);
        }
        x.act(4, 2, 5);
    }

    /** Nothing more can come. */
    private static TwoBeatsAgo full() {
        TwoBeatsAgo x = new TwoBeatsAgo();
        dancers(x, 6);
        for (int hall = 0; hall < 6; hall++) {
            Check.hall(x, "skip " + hall);
        }
        x.image();
        told(x);
        for (int i = 0; i < 10; i++) {
            x.see(i % 6, x.on(i, 10 + i % 6), i);
            x.dance(i % 3);
            x.book(0, 11);
        }
        feed(x, "left 1 d=0" + "|d=00".repeat(18));
        return x;
    }

    /** The last BEAT is reached; the TAPES hold nothing. */
    private static TwoBeatsAgo late() {
        TwoBeatsAgo x = new TwoBeatsAgo();
        dancers(x, 5);
        for (int i = 0; i < 166; i++) {
            x.pass(60);
        }
        x.pass(39);
        x.image();
        x.after(0, 1);
        x.see(1, 3, 2);
        x.dance(0);
        x.book(1, 7);
        x.act(2, 1, 9);
        feed(x, "wide 9");
        return x;
    }

    private static StringBuilder add(StringBuilder text, long answer) {
        return text.append(answer).append(' ');
    }

    /** All that can be told, what changes something last: the text, the rows, the image, the room that is left. */
    private static String toldOf(TwoBeatsAgo x) {
        StringBuilder text = new StringBuilder();
        for (int what = 0; what <= 6; what++) {
            add(text, x.count(what));
        }
        for (int i = 0; i < 12; i++) {
            add(text, x.trace(i));
        }
        for (int tape = 0; tape < 6; tape++) {
            for (int i = 0; i < 5; i++) {
                add(text, x.read(tape, i));
            }
            add(text, x.judge(tape, 0));
            // NOTHING or PLACE: whether the tape holds a row.
            add(text, x.item(tape, 60, 0));
        }
        floor(text.append('\n'), x);
        add(text.append('\n'), x.hall());
        floor(text, x);
        text.append('\n');
        for (int part = 0; part < 4; part++) {
            add(text, x.row(4, part, 0));
        }
        add(text.append('\n'), x.undo());
        floor(text, x);
        for (int part = 0; part < 4; part++) {
            add(text, x.row(4, part, 0));
        }
        for (int what = 0; what <= 6; what++) {
            add(text, x.count(what));
        }
        add(text, x.dancer(0, 0, 0));
        return text.toString();
    }

    private static void floor(StringBuilder text, TwoBeatsAgo x) {
        for (int what = 0; what <= 3; what++) {
            add(text, x.told(what));
        }
        for (int dancer = 0; dancer < 6; dancer++) {
            for (int what = 0; what <= 4; what++) {
                add(text, x.of(dancer, what));
            }
            for (int what = 10; what <= 17; what++) {
                add(text, x.of(dancer, what));
            }
            add(text, x.can(dancer));
            add(text, x.danced(10 + dancer));
            add(text, x.on(9, 10 + dancer));
        }
        add(text, x.looked());
    }

    private static void same(String name, Made made, long due, Call call) {
        TwoBeatsAgo with = made.make();
        TwoBeatsAgo without = made.make();
        long answer = call.on(with);
        if (due != ANY) check.due(name, answer, due);
        check.due(name + ", again", call.on(with), answer);
        check.dueText(name + ": all as ahead of it", toldOf(with), toldOf(without));
    }

    private static void refusedEverywhere(String name, Made made) {
        same("2: kind, " + name, made, -1, x -> x.dancer(7, 0, 0));
        same("2: v, " + name, made, -2, x -> x.dancer(0, 10, 0));
        same("2: place, " + name, made, -2, x -> x.dancer(0, 0, -1));
        same("3: dancer, " + name, made, -1001, x -> x.of(6, 10));
        same("4: dancer, " + name, made, -1, x -> x.after(6, 0));
        same("4: other, " + name, made, -1, x -> x.after(0, 6));
        same("5: dancer, " + name, made, -1, x -> x.begin(6, 0));
        same("6: dancer, " + name, made, -1, x -> x.row(6, 0, 5));
        same("7: sign, " + name, made, -2, x -> x.feed(128));
        same("9: what, " + name, made, -1, x -> x.told(4));
        same("10: n, " + name, made, -2, x -> x.pass(61));
        same("10: n, " + name, made, -2, x -> x.pass(-1));
        same("11: what, " + name, made, -1, x -> x.on(5, 16));
        same("11: n, " + name, made, -2, x -> x.on(61, 0));
        same("15: dancer, " + name, made, -1, x -> x.meet(0, 6));
        same("16: dancer, " + name, made, -1, x -> x.far(6, 0, 5));
        same("17: dancer, " + name, made, -1, x -> x.whom(6));
        same("18: dancer, " + name, made, -1, x -> x.alone(6, 5, 0));
        same("20: dancer, " + name, made, -1, x -> x.begins(6, 5, 0));
        same("21: n, " + name, made, -2, x -> x.crowd(41));
        same("22: dancer, " + name, made, -1, x -> x.see(6, 0, 0));
        same("23: dancer, " + name, made, -1, x -> x.can(6));
        same("24: n, " + name, made, NO, x -> x.odds(31, 0));
        same("24: part, " + name, made, NO, x -> x.odds(5, 2));
        same("25: n, " + name, made, NO, x -> x.mean(61, 0));
        same("25: part, " + name, made, NO, x -> x.mean(5, 2));
        same("26: what, " + name, made, -1, x -> x.dance(3));
        same("26: what, " + name, made, -1, x -> x.dance(-2));
        same("27: what, " + name, made, -1, x -> x.danced(16));
        same("28: dancer, " + name, made, -1, x -> x.book(6, 0));
        same("30: tape, " + name, made, -1, x -> x.judge(6, 0));
        same("34: i, " + name, made, -1, x -> x.trace(20));
        same("35: k, " + name, made, -2, x -> x.taken(0, 7));
        same("35: dancer, " + name, made, -11, x -> x.taken(6, 0));
        same("36: what, " + name, made, -2, x -> x.count(7));
        same("37: tape, " + name, made, -1, x -> x.tape(6, 0, 3));
        same("37: sort, " + name, made, -2, x -> x.tape(0, 5, 3));
        same("37: n, " + name, made, -2, x -> x.tape(0, 0, 61));
        same("37: size, " + name, made, -14, x -> x.tape(0, 0, -1));
        same("38: tape, " + name, made, -1, x -> x.item(6, 0, 3));
        same("38: nothing, " + name, made, -11, x -> x.item(5, 0, 3));
        same("39: tape, " + name, made, NO, x -> x.read(6, 0));
        same("39: nothing, " + name, made, NO, x -> x.read(5, 0));
        same("40: tape, " + name, made, -1, x -> x.shift(0, 0, 6, 0, 1));
        same("40: nothing, " + name, made, -11, x -> x.shift(0, 0, 5, 0, 1));
        same("40: nothing, " + name, made, -11, x -> x.shift(5, 0, 0, 0, 1));
    }

    private static void refusedBare(Made made) {
        same("32: no image", made, -3, x -> x.undo());
        same("33: nobody", made, 0, x -> x.act(0, 0, 5));
        same("8: no text", made, -10, x -> x.hall());
        same("21: nobody", made, -5, x -> x.crowd(40));
        same("24: nobody", made, NO, x -> x.odds(30, 0));
        same("25: nobody", made, NO, x -> x.mean(60, 0));
        same("22: none then", made, 0, x -> x.see(-1, 0, 0));
        same("26: empty then", made, 0, x -> x.dance(-1));
        same("28: empty then", made, 0, x -> x.book(-1, 0));
        same("30: nobody", made, -5, x -> x.judge(0, -1));
        same("37: nothing", made, 1, x -> x.tape(0, -1, 5));
    }

    private static void refusedSome(String name, Made made) {
        same("4: other, " + name, made, -1, x -> x.after(0, -1));
        same("5: place, " + name, made, -2, x -> x.begin(0, 30));
        same("5: place, " + name, made, -2, x -> x.begin(0, -1));
        same("6: part, " + name, made, -1, x -> x.row(4, 4, 5));
        same("6: n, " + name, made, -2, x -> x.row(4, 0, 10));
        same("6: KIND, " + name, made, -3, x -> x.row(0, 0, 5));
        same("11: n, " + name, made, -2, x -> x.on(-1, 10));
        same("15: both, " + name, made, -2, x -> x.meet(2, 2));
        same("16: both, " + name, made, -2, x -> x.far(2, 2, 5));
        same("16: n, " + name, made, -2, x -> x.far(1, 2, 61));
        same("18: what, " + name, made, -1, x -> x.alone(1, 5, 2));
        same("18: n, " + name, made, -2, x -> x.alone(1, 0, 0));
        same("20: what, " + name, made, -1, x -> x.begins(1, 5, 2));
        same("20: n, " + name, made, -2, x -> x.begins(1, 13, 0));
        same("22: place, " + name, made, -2, x -> x.see(1, 99, 0));
        same("22: n, " + name, made, -2, x -> x.see(1, 0, 13));
        same("28: place, " + name, made, -2, x -> x.book(1, 99));
        same("35: KIND, " + name, made, -12, x -> x.taken(0, 6));
    }

    private static void refusedTapes(String name, Made made) {
        same("30: no bytes, " + name, made, -12, x -> x.judge(1, 0));
        same("38: place, " + name, made, -13, x -> x.item(0, 4, 3));
        same("38: place, " + name, made, -13, x -> x.item(0, -1, 3));
        same("39: place, " + name, made, NO, x -> x.read(0, 4));
        same("40: sorts, " + name, made, -12, x -> x.shift(0, 0, 1, 0, 1));
        same("40: its end, " + name, made, -13, x -> x.shift(0, 2, 0, 0, 3));
        same("40: the other's end, " + name, made, -13, x -> x.shift(0, 0, 0, 2, 3));
        same("40: n, " + name, made, -13, x -> x.shift(0, 1, 0, 0, -1));
        same("40: none, " + name, made, 0, x -> x.shift(0, 4, 0, 0, 0));
    }

    private static void refusedFull(Made made) {
        same("2: FULL", made, -4, x -> x.dancer(0, 0, 0));
        same("7: FULL", made, -4, x -> x.feed('|'));
        same("8: FULL", made, -4, x -> x.hall());
        same("22: FULL", made, -4, x -> x.see(0, 5, 5));
        same("26: FULL", made, -4, x -> x.dance(0));
        same("28: FULL", made, -4, x -> x.book(0, 5));
    }

    private static void refusedLate(Made made) {
        same("10: STATE", made, -3, x -> x.pass(1));
        same("10: STATE", made, -3, x -> x.pass(60));
        same("10: none goes", made, 9999, x -> x.pass(0));
        same("30: nothing", made, 100, x -> x.judge(0, 0));
    }

    private static void asked(String name, Made made) {
        for (int what = 0; what < 18; what++) {
            int one = what;
            same("3: what " + what + ", " + name, made, ANY, x -> x.of(1, one));
            same("3: what " + what + ", TOLD, " + name, made, ANY, x -> x.of(4, one));
        }
        for (int what = 0; what < 4; what++) {
            int one = what;
            same("9: what " + what + ", " + name, made, ANY, x -> x.told(one));
        }
        same("11: on, " + name, made, ANY, x -> x.on(60, 0));
        same("11: on, " + name, made, ANY, x -> x.on(60, 14));
        same("12: again, " + name, made, ANY, x -> x.again());
        same("13: together, " + name, made, ANY, x -> x.together());
        same("14: still, " + name, made, ANY, x -> x.still());
        same("15: meet, " + name, made, ANY, x -> x.meet(0, 1));
        same("16: far, " + name, made, ANY, x -> x.far(0, 1, 60));
        same("17: whom, " + name, made, ANY, x -> x.whom(0));
        same("18: alone, whom, " + name, made, ANY, x -> x.alone(0, 30, 0));
        same("18: alone, how many, " + name, made, ANY, x -> x.alone(4, 30, 1));
        same("19: stop, " + name, made, ANY, x -> x.stop());
        same("20: begins, how many, " + name, made, ANY, x -> x.begins(0, 12, 0));
        same("20: begins, the least, " + name, made, ANY, x -> x.begins(4, 12, 1));
        same("21: crowd, " + name, made, ANY, x -> x.crowd(40));
        same("23: can, " + name, made, ANY, x -> x.can(0));
        same("24: odds, " + name, made, ANY, x -> x.odds(30, 0));
        same("25: mean, " + name, made, ANY, x -> x.mean(60, 1));
        same("27: danced, " + name, made, ANY, x -> x.danced(0));
        same("27: danced, " + name, made, ANY, x -> x.danced(14));
        same("29: looked, " + name, made, ANY, x -> x.looked());
        same("30: judge, " + name, made, ANY, x -> x.judge(0, 0));
        same("34: trace, " + name, made, ANY, x -> x.trace(0));
        same("35: taken, " + name, made, ANY, x -> x.taken(4, 3));
        same("36: count, " + name, made, ANY, x -> x.count(6));
        same("39: read, " + name, made, ANY, x -> x.read(0, 1));
    }

    /** The telling itself sees what does change. */
    private static void alike() {
        List<Call> changes = List.of(
            x -> x.dancer(0, 0, 0), x -> x.after(0, 1), x -> x.begin(0, 12), x -> x.row(4, 0, 1), x -> x.row(4, 1, 1),
            x -> x.feed('0'), x -> x.pass(1), x -> x.see(0, 0, 0), x -> x.dance(0), x -> x.book(0, 0),
            x -> x.act(0, 0, 0), x -> x.tape(5, 0, 0), x -> x.item(0, 0, 1), x -> x.image(), x -> x.undo(),
            x -> x.hall(), x -> x.see(-1, 0, 0), x -> x.dance(-1), x -> x.book(-1, 0), x -> x.shift(0, 1, 0, 0, 1));
        for (int i = 0; i < changes.size(); i++) {
            TwoBeatsAgo with = some();
            changes.get(i).on(with);
            check.due("a change is seen, " + i, toldOf(with).equals(toldOf(some())) ? 0 : 1, 1);
        }
        check.dueText("twins", toldOf(some()), toldOf(some()));
    }
}
