import java.util.ArrayList;
import java.util.HashSet;
import java.util.List;
import java.util.Set;
import java.util.regex.Matcher;
import java.util.regex.Pattern;

/**
 * The document's words once more, written apart from the class and as plainly as can be: a floor is
 * copied for every beat, a hall stays a text, kinds are classes. ModelTest holds the class against it.
 */
final class Model {
    private static final long NO = Long.MIN_VALUE;
    private static final Pattern HALL = hallPattern();

    private Floor now = new Floor();
    private Floor image;
    private String text = "";
    private int halls;
    private List<Integer> trace = new ArrayList<>();
    private final int[] sorts = {-1, -1, -1, -1, -1, -1};
    private final long[][] tapes = new long[6][0];

    private static Pattern hallPattern() {
        String one = "[dkvpab][<=>][0-9][0-9]?";
        String test = one;
        for (int depth = 0; depth < 4; depth++) {
            String all = "(?:" + one + ")(?:&(?:" + one + "))*";
            String any = all + "(?:\\|" + all + ")*";
            one = "!(?:" + one + ")|\\((?:" + any + ")\\)|" + test;
        }
        String all = "(?:" + one + ")(?:&(?:" + one + "))*";
        String any = all + "(?:\\|" + all + ")*";
        String clause = "(?:(?:left|right) [0-9][0-9]? (?:" + any + ")|(?:wide|skip) [0-9][0-9]?)";
        return Pattern.compile(clause + "(?:;" + clause + "){0,9}");
    }

    /** A DANCER; the kinds under it say only what is otherwise. */
    static class Dancer {
        int number, kind, v, after;
        int[] was = new int[8];
        int[] row = new int[4];

        int goes(Floor floor) {
            return floor.ring(floor.of(after).was[2] + floor.step(this));
        }

        int steps(Model model, int x) {
            model.trace.add(10);
            return x + number;
        }

        int turns(Model model, int x) {
            model.trace.add(11);
            return steps(model, x) - v;
        }

        int tells(Model model, int x) {
            model.trace.add(12);
            return turns(model, x) * 2;
        }
    }

    static class Late extends Dancer {
        @Override int goes(Floor floor) {
            return floor.ring(floor.of(after).was[3] + floor.step(this));
        }

        @Override int turns(Model model, int x) {
            model.trace.add(20);
            return super.turns(model, x) ^ 6;
        }
    }

    static class Mirrored extends Dancer {
        @Override int goes(Floor floor) {
            return floor.ring(floor.wide() - 1 - floor.of(after).was[2] + floor.step(this));
        }

        @Override int steps(Model model, int x) {
            model.trace.add(30);
            return super.steps(model, x * 3);
        }
    }

    static class Lazy extends Dancer {
        @Override int goes(Floor floor) {
            return floor.beat % (v + 2) == 0 ? was[0] : super.goes(floor);
        }

        @Override int tells(Model model, int x) {
            model.trace.add(40);
            int told = super.tells(model, x);
            return told + turns(model, 1);
        }
    }

    static class Halting extends Late {
        @Override int goes(Floor floor) {
            int aim = super.goes(floor);
            int further = 0;
            while ((was[0] + further) % floor.wide() != aim) further++;
            return floor.ring(was[0] + further / 2);
        }

        @Override int steps(Model model, int x) {
            model.trace.add(50);
            return -super.steps(model, x);
        }

        @Override int turns(Model model, int x) {
            model.trace.add(51);
            return super.turns(model, x + 1);
        }
    }

    static class Turning extends Mirrored {
        @Override int goes(Floor floor) {
            return floor.ring(super.goes(floor) + floor.beat % 3);
        }

        @Override int tells(Model model, int x) {
            model.trace.add(60);
            return super.tells(model, x - number);
        }
    }

    static class Told extends Lazy {
        @Override int goes(Floor floor) {
            return floor.ring(super.goes(floor) + row[floor.beat % 4]);
        }

        @Override int turns(Model model, int x) {
            model.trace.add(70);
            int turned = super.turns(model, x);
            return turned + super.steps(model, 2);
        }

        @Override int steps(Model model, int x) {
            model.trace.add(71);
            return super.steps(model, x) ^ v;
        }
    }

    private static final Class<?>[] KINDS = {
        Dancer.class, Late.class, Mirrored.class, Lazy.class, Halting.class, Turning.class, Told.class
    };

    private static Dancer made(int kind) {
        switch (kind) {
            case 1: return new Late();
            case 2: return new Mirrored();
            case 3: return new Lazy();
            case 4: return new Halting();
            case 5: return new Turning();
            case 6: return new Told();
            default: return new Dancer();
        }
    }

    /** All that an image takes. */
    static final class Floor {
        int beat;
        String hall = "";
        List<Dancer> dancers = new ArrayList<>();
        List<int[]> seen = new ArrayList<>();
        List<Integer> dance = new ArrayList<>();
        List<int[]> book = new ArrayList<>();

        Floor copy() {
            Floor copy = new Floor();
            copy.beat = beat;
            copy.hall = hall;
            for (Dancer dancer : dancers) {
                Dancer other = made(dancer.kind);
                other.number = dancer.number;
                other.kind = dancer.kind;
                other.v = dancer.v;
                other.after = dancer.after;
                other.was = dancer.was.clone();
                other.row = dancer.row.clone();
                copy.dancers.add(other);
            }
            copy.seen.addAll(seen);
            copy.dance.addAll(dance);
            copy.book.addAll(book);
            return copy;
        }

        Dancer of(int number) {
            return dancers.get(number);
        }

        int last(String word, int without) {
            int n = without;
            for (String clause : hall.split(";")) {
                if (clause.startsWith(word)) n = Integer.parseInt(clause.split(" ")[1]);
            }
            return n;
        }

        int wide() {
            return Math.max(1, last("wide", 24));
        }

        int skip() {
            return last("skip", 0);
        }

        int ring(int place) {
            int wide = wide();
            return (place % wide + wide) % wide;
        }

        int step(Dancer dancer) {
            int step = 0;
            for (String clause : hall.split(";")) {
                String[] parts = clause.split(" ");
                if (parts.length < 3 || !any(parts[2], dancer)) continue;
                step += (parts[0].equals("left") ? 1 : -1) * Integer.parseInt(parts[1]);
            }
            return step;
        }

        /** Splits at a sign that stands in no brackets. */
        private static List<String> split(String text, char sign) {
            List<String> parts = new ArrayList<>();
            int depth = 0;
            int from = 0;
            for (int i = 0; i < text.length(); i++) {
                char c = text.charAt(i);
                if (c == '(') depth++;
                if (c == ')') depth--;
                if (c == sign && depth == 0) {
                    parts.add(text.substring(from, i));
                    from = i + 1;
                }
            }
            parts.add(text.substring(from));
            return parts;
        }

        private boolean any(String text, Dancer dancer) {
            for (String part : split(text, '|')) {
                boolean all = true;
                for (String one : split(part, '&')) {
                    all &= one(one, dancer);
                }
                if (all) return true;
            }
            return false;
        }

        private boolean one(String text, Dancer dancer) {
            if (text.charAt(0) == '!') return !one(text.substring(1), dancer);
            if (text.charAt(0) == '(') return any(text.substring(1, text.length() - 1), dancer);
            int[] values = {dancer.number, dancer.kind, dancer.v, dancer.was[0], dancer.after, beat % 10};
            int sign = Integer.compare(values["dkvpab".indexOf(text.charAt(0))], Integer.parseInt(text.substring(2)));
            return sign == "<=>".indexOf(text.charAt(1)) - 1;
        }

        Floor later(boolean stopped) {
            Floor later = copy();
            later.beat = beat + 1;
            boolean stays = stopped || skip() > 0 && (beat + 1) % skip() == 0;
            for (int number = 0; number < dancers.size(); number++) {
                int[] was = of(number).was;
                int[] then = later.of(number).was;
                for (int back = 7; back > 0; back--) {
                    then[back] = was[back - 1];
                }
                then[0] = stays ? was[0] : of(number).goes(this);
            }
            return later;
        }

        /** Behind 0, 1 .. n beats; the band stops for one of them, or for none (-1). */
        List<Floor> all(int n, int stopBehind) {
            List<Floor> all = new ArrayList<>();
            Floor floor = this;
            all.add(floor);
            for (int beat = 0; beat < n; beat++) {
                floor = floor.later(beat == stopBehind);
                all.add(floor);
            }
            return all;
        }

        Floor behind(int n) {
            return all(n, -1).get(n);
        }

        Floor following(int dancer, int other) {
            Floor copy = copy();
            copy.of(dancer).after = other;
            return copy;
        }

        int places() {
            Set<Integer> places = new HashSet<>();
            for (Dancer dancer : dancers) {
                places.add(dancer.was[0]);
            }
            return places.size();
        }

        /** Behind how many of n beats all are on one place first; 1000 if not by then. */
        int together(int n, int stopBehind) {
            List<Floor> all = all(n, stopBehind);
            for (int beat = 0; beat <= n; beat++) {
                if (all.get(beat).places() <= 1) return beat;
            }
            return 1000;
        }

        int apart(int one, int other) {
            int a = of(one).was[0];
            int b = of(other).was[0];
            return Math.min(Math.abs(a - b), wide() - Math.abs(a - b));
        }

        String was() {
            StringBuilder text = new StringBuilder();
            for (Dancer dancer : dancers) {
                text.append(java.util.Arrays.toString(dancer.was));
            }
            return text.toString();
        }
    }

    private int size() {
        return now.dancers.size();
    }

    private boolean has(int dancer) {
        return dancer >= 0 && dancer < size();
    }

    int dancer(int kind, int v, int place) {
        if (kind < 0 || kind > 6) return -1;
        if (v < 0 || v > 9 || place < 0 || place >= now.wide()) return -2;
        if (size() == 6) return -4;
        Dancer dancer = made(kind);
        dancer.number = size();
        dancer.kind = kind;
        dancer.v = v;
        dancer.after = size();
        java.util.Arrays.fill(dancer.was, place);
        now.dancers.add(dancer);
        return size() - 1;
    }

    int of(int dancer, int what) {
        if (!has(dancer)) return -1001;
        Dancer one = now.of(dancer);
        if (what >= 10 && what <= 17) return one.was[what - 10];
        switch (what) {
            case 0: return one.kind;
            case 1: return one.v;
            case 2: return one.after;
            case 3: return now.step(one);
            case 4: return one.goes(now);
            default: return -1001;
        }
    }

    int after(int dancer, int other) {
        if (!has(dancer) || !has(other)) return -1;
        int before = now.of(dancer).after;
        now.of(dancer).after = other;
        return before;
    }

    int begin(int dancer, int place) {
        if (!has(dancer)) return -1;
        if (place < 0 || place >= now.wide()) return -2;
        int before = now.of(dancer).was[0];
        java.util.Arrays.fill(now.of(dancer).was, place);
        return before;
    }

    int row(int dancer, int part, int n) {
        if (!has(dancer) || part < 0 || part > 3) return -1;
        if (n < 0 || n > 9) return -2;
        if (now.of(dancer).kind != 6) return -3;
        int before = now.of(dancer).row[part];
        now.of(dancer).row[part] = n;
        return before;
    }

    int feed(int sign) {
        if (sign < 0 || sign > 127) return -2;
        if (text.length() == 100) return -4;
        text += (char) sign;
        return text.length();
    }

    int hall() {
        if (halls == 6) return -4;
        String read = text;
        text = "";
        if (!HALL.matcher(read).matches()) return -10 - fault(read);
        now.hall = read;
        for (Dancer dancer : now.dancers) {
            for (int back = 0; back < 8; back++) {
                dancer.was[back] %= now.wide();
            }
        }
        return halls++;
    }

    /** As many bytes as a hall begins with. */
    private static int fault(String text) {
        for (int length = 1; length <= text.length(); length++) {
            Matcher matcher = HALL.matcher(text.substring(0, length));
            if (!matcher.matches() && !matcher.hitEnd()) return length - 1;
        }
        return text.length();
    }

    int told(int what) {
        int[] told = {now.beat, now.wide(), now.skip(), now.places()};
        return what >= 0 && what < 4 ? told[what] : -1;
    }

    int pass(int n) {
        if (n < 0 || n > 60) return -2;
        if (now.beat + n > 9999) return -3;
        now = now.behind(n);
        return now.beat;
    }

    private boolean isWhat(int what) {
        return what == 0 || what >= 10 && has(what - 10);
    }

    private static int what(Floor floor, int what) {
        return what == 0 ? floor.places() : floor.of(what - 10).was[0];
    }

    int on(int n, int what) {
        if (!isWhat(what)) return -1;
        if (n < 0 || n > 60) return -2;
        return what(now.behind(n), what);
    }

    int again() {
        List<Floor> all = now.all(60, -1);
        for (int n = 1; n <= 60; n++) {
            if (all.get(n).was().equals(now.was())) return n;
        }
        return -5;
    }

    int together() {
        int n = now.together(60, -1);
        return n > 60 ? -5 : n;
    }

    int still() {
        List<Floor> all = now.all(60, -1);
        for (int n = 0; n <= 60; n++) {
            boolean still = true;
            for (Dancer dancer : all.get(n).dancers) {
                still &= dancer.goes(all.get(n)) == dancer.was[0];
            }
            if (still) return n;
        }
        return -5;
    }

    int meet(int one, int other) {
        if (!has(one) || !has(other)) return -1;
        if (one == other) return -2;
        List<Floor> all = now.all(60, -1);
        for (int n = 0; n <= 60; n++) {
            if (all.get(n).apart(one, other) == 0) return n;
        }
        return -5;
    }

    int far(int one, int other, int n) {
        if (!has(one) || !has(other)) return -1;
        if (one == other || n < 0 || n > 60) return -2;
        int most = 0;
        for (Floor floor : now.all(n, -1)) {
            most = Math.max(most, floor.apart(one, other));
        }
        return most;
    }

    int whom(int dancer) {
        if (!has(dancer)) return -1;
        int best = -5;
        int least = 61;
        for (int other = size() - 1; other >= 0; other--) {
            int beats = now.following(dancer, other).together(60, -1);
            if (beats <= least && beats <= 60) {
                least = beats;
                best = other;
            }
        }
        return best;
    }

    int alone(int dancer, int n, int what) {
        if (!has(dancer) || what < 0 || what > 1) return -1;
        if (n < 1 || n > 30) return -2;
        int best = 0;
        int most = 0;
        for (int other = size() - 1; other >= 0; other--) {
            int beats = 0;
            for (Floor floor : now.following(dancer, other).all(n, -1).subList(1, n + 1)) {
                int there = 0;
                for (Dancer one : floor.dancers) {
                    if (one.was[0] == floor.of(dancer).was[0]) there++;
                }
                if (there == 1) beats++;
            }
            if (beats >= most) {
                most = beats;
                best = other;
            }
        }
        return what == 0 ? best : most;
    }

    int stop() {
        int least = now.together(60, -1);
        int best = -5;
        for (int behind = 0; behind <= 10; behind++) {
            int beats = now.together(60, behind);
            if (beats < least) {
                least = beats;
                best = behind;
            }
        }
        return best;
    }

    int begins(int dancer, int n, int what) {
        if (!has(dancer) || what < 0 || what > 1) return -1;
        if (n < 0 || n > 12) return -2;
        List<Integer> places = new ArrayList<>();
        for (int place = 0; place < now.wide(); place++) {
            Floor copy = now.copy();
            java.util.Arrays.fill(copy.of(dancer).was, place);
            if (copy.together(n, -1) <= n) places.add(place);
        }
        if (what == 0) return places.size();
        return places.isEmpty() ? -5 : places.get(0);
    }

    int crowd(int n) {
        if (n < 0 || n > 40) return -2;
        if (size() == 0) return -5;
        List<Floor> all = now.all(n, -1);
        int best = 0;
        int most = -1;
        for (int place = 0; place < now.wide(); place++) {
            int there = 0;
            for (Floor floor : all) {
                for (Dancer dancer : floor.dancers) {
                    if (dancer.was[0] == place) there++;
                }
            }
            if (there > most) {
                most = there;
                best = place;
            }
        }
        return best;
    }

    int see(int dancer, int place, int n) {
        if (dancer == -1) {
            now.seen.clear();
            return 0;
        }
        if (!has(dancer)) return -1;
        if (place < 0 || place > 98 || n < 0 || n > 12) return -2;
        if (now.seen.size() == 5) return -4;
        now.seen.add(new int[] {dancer, place, n});
        return now.seen.size();
    }

    int can(int dancer) {
        if (!has(dancer)) return -1;
        int can = 0;
        for (int other = 0; other < size(); other++) {
            boolean so = true;
            for (int[] seen : now.seen) {
                so &= now.following(dancer, other).behind(seen[2]).of(seen[0]).was[0] == seen[1];
            }
            if (so) can += 1 << other;
        }
        return can;
    }

    private static long fraction(int above, int below, int part) {
        if (part < 0 || part > 1) return NO;
        int shared = java.math.BigInteger.valueOf(above).gcd(java.math.BigInteger.valueOf(below)).intValue();
        return (part == 0 ? above : below) / shared;
    }

    long odds(int n, int part) {
        if (n < 0 || n > 30 || size() == 0) return NO;
        int good = 0;
        for (int dancer = 0; dancer < size(); dancer++) {
            if (now.following(dancer, dancer).together(n, -1) <= n) good++;
        }
        return fraction(good, size(), part);
    }

    long mean(int n, int part) {
        if (n < 0 || n > 60 || size() < 2) return NO;
        Floor floor = now.behind(n);
        int sum = 0;
        for (int one = 0; one < size(); one++) {
            for (int other = 0; other < one; other++) {
                sum += floor.apart(one, other);
            }
        }
        return fraction(sum, size() * (size() - 1) / 2, part);
    }

    int dance(int what) {
        if (what == -1) {
            now.dance.clear();
            return 0;
        }
        if (what < 0 || what > 2) return -1;
        if (now.dance.size() == 10) return -4;
        now.dance.add(what);
        return now.dance.size();
    }

    int danced(int what) {
        if (!isWhat(what)) return -1;
        Floor floor = now.copy();
        for (int step : now.dance) {
            if (step < 2) {
                floor = floor.later(step == 1);
            } else {
                for (Dancer dancer : floor.dancers) {
                    dancer.after = (dancer.number + 1) % size();
                }
            }
        }
        return what(floor, what);
    }

    int book(int dancer, int place) {
        if (dancer == -1) {
            now.book.clear();
            return 0;
        }
        if (!has(dancer)) return -1;
        if (place < 0 || place > 98) return -2;
        if (now.book.size() == 8) return -4;
        now.book.add(new int[] {dancer, place});
        return now.book.size();
    }

    int looked() {
        for (int i = 0; i < now.book.size(); i++) {
            if (now.of(now.book.get(i)[0]).was[0] != now.book.get(i)[1]) return i;
        }
        return -5;
    }

    private static boolean isTape(int tape) {
        return tape >= 0 && tape < 6;
    }

    int judge(int tape, int i) {
        if (!isTape(tape)) return -1;
        if (sorts[tape] > 0) return -12;
        if (size() == 0) return -5;
        if (i < 0) return 100;
        for (int looked = 0; looked < 8 * size(); looked++) {
            if ((long) i + looked >= tapes[tape].length) return 100 + looked;
            if (tapes[tape][i + looked] != now.of(looked / 8).was[looked % 8]) return looked / 8 * 10 + looked % 8;
        }
        return -5;
    }

    int image() {
        image = now.copy();
        return size();
    }

    int undo() {
        if (image == null) return -3;
        now = image.copy();
        return size();
    }

    int act(int dancer, int act, int x) {
        trace = new ArrayList<>();
        if (!has(dancer)) return 0;
        switch (act) {
            case 0: return now.of(dancer).steps(this, x);
            case 1: return now.of(dancer).turns(this, x);
            case 2: return now.of(dancer).tells(this, x);
            default: return 0;
        }
    }

    int trace(int i) {
        return i >= 0 && i < trace.size() && i < 20 ? trace.get(i) : -1;
    }

    int taken(int dancer, int k) {
        if (k < 0 || k > 6) return -2;
        if (!has(dancer)) return -11;
        return KINDS[k].isInstance(now.of(dancer)) ? now.of(dancer).kind : -12;
    }

    int count(int what) {
        int[] counts = {size(), halls, now.seen.size(), now.dance.size(), now.book.size(), text.length(), trace.size()};
        return what >= 0 && what < 7 ? counts[what] : -2;
    }

    int tape(int tape, int sort, int n) {
        if (!isTape(tape)) return -1;
        if (sort < -1 || sort > 4 || sort >= 0 && n > 60) return -2;
        if (sort >= 0 && n < 0) return -14;
        sorts[tape] = sort;
        tapes[tape] = new long[sort < 0 ? 0 : n];
        return 1;
    }

    int item(int tape, int i, long v) {
        if (!isTape(tape)) return -1;
        if (sorts[tape] < 0) return -11;
        if (i < 0 || i >= tapes[tape].length) return -13;
        long[] cut = {(byte) v, (short) v, (int) v, v, v == 0 ? 0 : 1};
        tapes[tape][i] = cut[sorts[tape]];
        return 1;
    }

    long read(int tape, int i) {
        return isTape(tape) && i >= 0 && i < tapes[tape].length ? tapes[tape][i] : NO;
    }

    int shift(int tape, int i, int other, int j, int n) {
        if (!isTape(tape) || !isTape(other)) return -1;
        if (sorts[tape] < 0 || sorts[other] < 0) return -11;
        if (sorts[tape] != sorts[other]) return -12;
        if (n < 0 || i < 0 || j < 0) return -13;
        if ((long) i + n > tapes[tape].length || (long) j + n > tapes[other].length) return -13;
        long[] before = tapes[tape].clone();
        for (int k = 0; k < n; k++) {
            tapes[other][j + k] = before[i + k];
        }
        return n;
    }
}
