/** Runs of calls drawn by a fixed rule, each answer held against the model's. */
public final class ModelTest {
    private static final int RUNS = 300;
    private static final int CALLS = 512;
    private static final int MOST_TOLD = 20;

    private final Check check = new Check();
    private final StringBuilder hallsFed = new StringBuilder();
    private long seed;
    private TwoBeatsAgo x;
    private Model m;
    private int calls;
    private int wide;
    private String run;

    public static void main(String[] args) {
        ModelTest test = new ModelTest();
        int runs = args.length > 0 ? Integer.parseInt(args[0]) : RUNS;
        for (int run = 0; run < runs && test.check.wrong() < MOST_TOLD; run++) {
            test.oneRun(run);
        }
        test.check.end("ModelTest");
    }

    private int draw(int n) {
        seed = seed * 6364136223846793005L + 1442695040888963407L;
        return (int) ((seed >>> 33) % n);
    }

    /** Mostly one of 0 .. n - 1, now and then something around or far off. */
    private int about(int n) {
        switch (draw(24)) {
            case 0: return -1;
            case 1: return n;
            case 2: return new int[] {-2, n + 1, Integer.MIN_VALUE, Integer.MAX_VALUE}[draw(4)];
            default: return draw(Math.max(1, n));
        }
    }

    private void due(String call, long got, long want) {
        calls++;
        check.due(run + ", call " + calls + ": " + call, got, want);
    }

    private void oneRun(int number) {
        seed = number * 7919L + 17;
        draw(2);
        x = new TwoBeatsAgo();
        m = new Model();
        calls = 0;
        run = "run " + number;
        int dancers = draw(7);
        if (draw(3) > 0) feedHall();
        for (int i = 0; i < dancers; i++) {
            oneDancer();
        }
        for (int i = 0; i < dancers && draw(8) > 0; i++) {
            int other = draw(Math.max(1, dancers));
            due("after", x.after(i, other), m.after(i, other));
        }
        while (calls < CALLS) {
            wide = Math.max(1, m.told(1));
            oneCall();
        }
    }

    private void oneDancer() {
        int kind = about(7);
        int v = about(10);
        int place = about(Math.max(1, m.told(1)));
        due("dancer(" + kind + ", " + v + ", " + place + ")", x.dancer(kind, v, place), m.dancer(kind, v, place));
    }

    private void feedHall() {
        String text = hallText();
        for (int i = 0; i < text.length() && calls < CALLS - 1; i++) {
            int sign = text.charAt(i);
            due("feed(" + sign + ")", x.feed(sign), m.feed(sign));
        }
        due("hall() by '" + text + "'", x.hall(), m.hall());
    }

    private String hallText() {
        hallsFed.setLength(0);
        int clauses = draw(6) == 0 ? 1 + draw(12) : 1 + draw(4);
        for (int i = 0; i < clauses; i++) {
            if (i > 0) hallsFed.append(';');
            clause();
        }
        if (draw(5) == 0 && hallsFed.length() > 0) {
            hallsFed.setCharAt(draw(hallsFed.length()), "dkvpab<=>0123456789 ;&|!()leftrightwideskip".charAt(draw(43)));
        }
        if (draw(12) == 0) hallsFed.setLength(draw(hallsFed.length()));
        return hallsFed.toString();
    }

    private void clause() {
        int sort = draw(6);
        if (sort < 4) {
            hallsFed.append(sort < 2 ? "left " : "right ").append(draw(8) == 0 ? draw(100) : draw(4)).append(' ');
            any(0);
        } else if (sort == 4) {
            hallsFed.append("wide ").append(draw(3) == 0 ? draw(100) : 1 + draw(9));
        } else {
            hallsFed.append("skip ").append(draw(12));
        }
    }

    private void any(int depth) {
        for (int i = 0, n = 1 + draw(4) / 3; i < n; i++) {
            if (i > 0) hallsFed.append('|');
            for (int j = 0, k = 1 + draw(4) / 3; j < k; j++) {
                if (j > 0) hallsFed.append('&');
                one(depth);
            }
        }
    }

    private void one(int depth) {
        int sort = draw(depth > 5 ? 3 : 6);
        if (sort == 3) {
            hallsFed.append('!');
            one(depth + 1);
        } else if (sort == 4) {
            hallsFed.append('(');
            any(depth + 1);
            hallsFed.append(')');
        } else {
            int letter = draw(6);
            int n = letter == 3 && draw(2) == 0 ? draw(30) : draw(10);
            hallsFed.append("dkvpab".charAt(letter)).append("<=>".charAt(draw(3))).append(n);
        }
    }

    private void oneCall() {
        switch (draw(6)) {
            case 0: floorCall(); break;
            case 1: beatCall(); break;
            case 2: bestCall(); break;
            case 3: handCall(); break;
            case 4: actCall(); break;
            default: tapeCall(); break;
        }
    }

    private void floorCall() {
        int d = about(6);
        int a = about(6);
        switch (draw(12)) {
            case 0: if (draw(4) == 0) oneDancer(); break;
            case 1: case 2: {
                int what = about(18);
                due("of(" + d + ", " + what + ")", x.of(d, what), m.of(d, what));
                break;
            }
            case 3: due("of(" + d + ", 4)", x.of(d, 4), m.of(d, 4)); break;
            case 4: due("of(" + d + ", 3)", x.of(d, 3), m.of(d, 3)); break;
            case 5: case 6: due("after(" + d + ", " + a + ")", x.after(d, a), m.after(d, a)); break;
            case 7: {
                int place = about(wide);
                due("begin(" + d + ", " + place + ")", x.begin(d, place), m.begin(d, place));
                break;
            }
            case 8: {
                int part = about(4);
                int n = about(10);
                due("row(" + d + ", " + part + ", " + n + ")", x.row(d, part, n), m.row(d, part, n));
                break;
            }
            case 9: if (draw(3) == 0) feedHall(); break;
            case 10: {
                int sign = about(128);
                if (draw(6) == 0) due("feed(" + sign + ")", x.feed(sign), m.feed(sign));
                break;
            }
            default: {
                int what = about(4);
                due("told(" + what + ")", x.told(what), m.told(what));
            }
        }
    }

    private void beatCall() {
        int d = about(6);
        int a = about(6);
        int n = about(61);
        switch (draw(7)) {
            case 0: {
                int few = draw(2) == 0 ? draw(12) : n;
                due("pass(" + few + ")", x.pass(few), m.pass(few));
                break;
            }
            case 1: {
                int what = draw(3) == 0 ? about(3) : 10 + about(6);
                due("on(" + n + ", " + what + ")", x.on(n, what), m.on(n, what));
                break;
            }
            case 2: due("again()", x.again(), m.again()); break;
            case 3: due("together()", x.together(), m.together()); break;
            case 4: due("still()", x.still(), m.still()); break;
            case 5: due("meet(" + d + ", " + a + ")", x.meet(d, a), m.meet(d, a)); break;
            default: due("far(" + d + ", " + a + ", " + n + ")", x.far(d, a, n), m.far(d, a, n));
        }
    }

    private void bestCall() {
        int d = about(6);
        int what = about(2);
        switch (draw(5)) {
            case 0: due("whom(" + d + ")", x.whom(d), m.whom(d)); break;
            case 1: {
                int n = about(31);
                due("alone(" + d + ", " + n + ", " + what + ")", x.alone(d, n, what), m.alone(d, n, what));
                break;
            }
            case 2: due("stop()", x.stop(), m.stop()); break;
            case 3: {
                int n = about(13);
                due("begins(" + d + ", " + n + ", " + what + ")", x.begins(d, n, what), m.begins(d, n, what));
                break;
            }
            default: {
                int n = about(41);
                due("crowd(" + n + ")", x.crowd(n), m.crowd(n));
            }
        }
    }

    private void handCall() {
        int d = about(6);
        int part = about(2);
        switch (draw(10)) {
            case 0: {
                int n = about(13);
                int place = draw(2) == 0 && n >= 0 && n < 13 ? Math.max(0, m.on(n, 10 + d)) : about(draw(2) == 0 ? 99 : wide);
                due("see(" + d + ", " + place + ", " + n + ")", x.see(d, place, n), m.see(d, place, n));
                break;
            }
            case 1: case 2: due("can(" + d + ")", x.can(d), m.can(d)); break;
            case 3: {
                int n = about(31);
                due("odds(" + n + ", " + part + ")", x.odds(n, part), m.odds(n, part));
                break;
            }
            case 4: {
                int n = about(61);
                due("mean(" + n + ", " + part + ")", x.mean(n, part), m.mean(n, part));
                break;
            }
            case 5: {
                int what = draw(12) == 0 ? -1 : about(3);
                due("dance(" + what + ")", x.dance(what), m.dance(what));
                break;
            }
            case 6: case 7: {
                int what = draw(3) == 0 ? about(3) : 10 + about(6);
                due("danced(" + what + ")", x.danced(what), m.danced(what));
                break;
            }
            case 8: {
                int place = draw(2) == 0 ? Math.max(0, m.of(d, 10)) : about(99);
                due("book(" + d + ", " + place + ")", x.book(d, place), m.book(d, place));
                break;
            }
            default: due("looked()", x.looked(), m.looked());
        }
    }

    private void actCall() {
        int d = about(6);
        switch (draw(8)) {
            case 0: if (draw(2) == 0) due("image()", x.image(), m.image()); break;
            case 1: if (draw(4) == 0) due("undo()", x.undo(), m.undo()); break;
            case 2: case 3: {
                int act = about(3);
                int with = draw(8) == 0 ? Integer.MAX_VALUE - draw(9) : draw(40) - 20;
                due("act(" + d + ", " + act + ", " + with + ")", x.act(d, act, with), m.act(d, act, with));
                break;
            }
            case 4: case 5: {
                int i = about(13);
                due("trace(" + i + ")", x.trace(i), m.trace(i));
                break;
            }
            case 6: {
                int k = about(7);
                due("taken(" + d + ", " + k + ")", x.taken(d, k), m.taken(d, k));
                break;
            }
            default: {
                int what = about(7);
                due("count(" + what + ")", x.count(what), m.count(what));
            }
        }
    }

    private void tapeCall() {
        int t = about(6);
        int i = about(60);
        switch (draw(6)) {
            case 0: {
                int sort = draw(2) == 0 ? 0 : about(5);
                due("tape(" + t + ", " + sort + ", " + i + ")", x.tape(t, sort, i), m.tape(t, sort, i));
                break;
            }
            case 1: {
                long v = draw(2) == 0 ? draw(1 << 30) * (1L << draw(34)) : draw(300) - 150;
                due("item(" + t + ", " + i + ", " + v + ")", x.item(t, i, v), m.item(t, i, v));
                break;
            }
            case 2: due("read(" + t + ", " + i + ")", x.read(t, i), m.read(t, i)); break;
            case 3: {
                int other = about(6);
                int j = about(20);
                int n = about(20);
                due("shift(" + t + ", " + i + ", " + other + ", " + j + ", " + n + ")", x.shift(t, i, other, j, n), m.shift(t, i, other, j, n));
                break;
            }
            case 4: wasOnTape(t); break;
            default: {
                int at = draw(3) == 0 ? i : draw(2);
                due("judge(" + t + ", " + at + ")", x.judge(t, at), m.judge(t, at));
            }
        }
    }

    /** Some of WAS as it is, so that a judging gets further than the first item. */
    private void wasOnTape(int t) {
        if (m.judge(t, 0) < 0 || draw(3) > 0) return;
        int items = draw(2) == 0 ? 48 : draw(48);
        for (int k = 0; k < items && calls < CALLS; k++) {
            int v = m.of(k / 8, 10 + k % 8);
            due("item(" + t + ", " + k + ", " + v + ")", x.item(t, k, v), m.item(t, k, v));
        }
        due("judge(" + t + ", 0)", x.judge(t, 0), m.judge(t, 0));
    }
}
