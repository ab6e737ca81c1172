import java.util.Arrays;

/** Dancers in a ring who step, each beat, to where somebody else was some beats before. */
public final class TwoBeatsAgo {
    public static final int NONE = -1, BAD = -2, STATE = -3, FULL = -4;
    public static final long NO = Long.MIN_VALUE;

    private static final int NEVER = -5;
    private static final int NOTHING = -11, CAST = -12, PLACE = -13, SIZE = -14;
    private static final int NO_SUCH_PART = -1001;
    private static final int FAULT_BASE = -10;
    private static final int ROW_ENDED = 100;
    private static final int FORGET = -1;

    private static final int DANCER = 0, LATE = 1, MIRRORED = 2, LAZY = 3, HALTING = 4, TURNING = 5, TOLD = 6;
    private static final int KINDS = 7;
    private static final int[] KIND_ABOVE = {NONE, DANCER, DANCER, DANCER, LATE, MIRRORED, LAZY};

    private static final int MOST_DANCERS = 6;
    private static final int MOST_HALLS = 6;
    private static final int MOST_PLACES = 99;
    private static final int MOST_BEAT = 9999;
    private static final int LONGEST_LOOK = 60;
    private static final int LAST_STOP = 10;
    private static final int BACK = 8;
    private static final int ROW_PARTS = 4;
    private static final int FIRST_DANCER = 10;
    private static final int FIRST_WAS = 10;

    private final Floor now;
    private final Floor trial;
    private final Floor kept;
    private final ByHand hand;
    private final ByHand keptHand;
    private boolean imageTaken;
    private final Hall[] halls;
    private int hallCount;
    private final HallText text;
    private final Acts acts;
    private final Tape[] tapes;
    private final int[] stood;

    public TwoBeatsAgo() {
        Hall bare = new Hall();
        now = new Floor(bare);
        trial = new Floor(bare);
        kept = new Floor(bare);
        hand = new ByHand();
        keptHand = new ByHand();
        halls = new Hall[MOST_HALLS];
        for (int i = 0; i < MOST_HALLS; i++) {
            halls[i] = new Hall();
        }
        text = new HallText();
        acts = new Acts();
        tapes = new Tape[Tape.MOST];
        for (int i = 0; i < Tape.MOST; i++) {
            tapes[i] = new Tape();
        }
        stood = new int[MOST_PLACES];
    }

    // ---- dancers, halls

    public int dancer(int kind, int v, int place) {
        if (kind < 0 || kind >= KINDS) return NONE;
        if (v < 0 || v > 9 || !now.hasPlace(place)) return BAD;
        if (now.dancers >= MOST_DANCERS) return FULL;
        return now.join(kind, v, place);
    }

    public int of(int dancer, int what) {
        if (!now.has(dancer)) return NO_SUCH_PART;
        switch (what) {
            case 0: return now.kind[dancer];
            case 1: return now.v[dancer];
            case 2: return now.follows[dancer];
            case 3: return now.hall.stepFor(now, dancer);
            case 4: return now.goesOf(dancer);
            default: break;
        }
        if (what < FIRST_WAS || what >= FIRST_WAS + BACK) return NO_SUCH_PART;
        return now.wasOf(dancer, what - FIRST_WAS);
    }

    public int after(int dancer, int other) {
        if (!now.has(dancer) || !now.has(other)) return NONE;
        int before = now.follows[dancer];
        now.follow(dancer, other);
        return before;
    }

    public int begin(int dancer, int place) {
        if (!now.has(dancer)) return NONE;
        if (!now.hasPlace(place)) return BAD;
        int before = now.wasOf(dancer, 0);
        now.standAt(dancer, place);
        return before;
    }

    public int row(int dancer, int part, int n) {
        if (!now.has(dancer) || part < 0 || part >= ROW_PARTS) return NONE;
        if (n < 0 || n > 9) return BAD;
        if (now.kind[dancer] != TOLD) return STATE;
        int at = dancer * ROW_PARTS + part;
        int before = now.rows[at];
        now.rows[at] = n;
        return before;
    }

    public int feed(int sign) {
        if (sign < 0 || sign > 127) return BAD;
        if (text.length >= HallText.LONGEST) return FULL;
        text.add((char) sign);
        return text.length;
    }

    public int hall() {
        if (hallCount < 0 || hallCount >= MOST_HALLS) return FULL;
        Hall newest = halls[hallCount];
        boolean isHall = text.readInto(newest);
        text.length = 0;
        if (!isHall) return FAULT_BASE - text.at;
        now.hall = newest;
        now.wrapAll();
        hallCount++;
        return hallCount - 1;
    }

    public int told(int what) {
        switch (what) {
            case 0: return now.beat;
            case 1: return now.hall.wide;
            case 2: return now.hall.skip;
            case 3: return now.placesTaken();
            default: return NONE;
        }
    }

    // ---- beats

    public int pass(int n) {
        if (n < 0 || n > LONGEST_LOOK) return BAD;
        if (now.beat + n > MOST_BEAT) return STATE;
        now.goBeats(n);
        return now.beat;
    }

    public int on(int n, int what) {
        if (!asksForPlaces(what)) return NONE;
        if (n < 0 || n > LONGEST_LOOK) return BAD;
        trial.become(now);
        trial.goBeats(n);
        return placesAsked(what);
    }

    public int again() {
        trial.become(now);
        for (int n = 1; n <= LONGEST_LOOK; n++) {
            trial.goBeat(false);
            if (trial.standsAs(now)) return n;
        }
        return NEVER;
    }

    public int together() {
        trial.become(now);
        return trial.beatsTillTogether(LONGEST_LOOK, NEVER);
    }

    public int still() {
        trial.become(now);
        for (int n = 0; n <= LONGEST_LOOK; n++) {
            if (trial.nobodyMoves()) return n;
            trial.goBeat(false);
        }
        return NEVER;
    }

    public int meet(int one, int other) {
        if (!now.has(one) || !now.has(other)) return NONE;
        if (one == other) return BAD;
        trial.become(now);
        for (int n = 0; n <= LONGEST_LOOK; n++) {
            if (trial.wasOf(one, 0) == trial.wasOf(other, 0)) return n;
            trial.goBeat(false);
        }
        return NEVER;
    }

    public int far(int one, int other, int n) {
        if (!now.has(one) || !now.has(other)) return NONE;
        if (one == other || n < 0 || n > LONGEST_LOOK) return BAD;
        trial.become(now);
        int most = trial.apart(one, other);
        for (int beat = 1; beat <= n; beat++) {
            trial.goBeat(false);
            most = Math.max(most, trial.apart(one, other));
        }
        return most;
    }

    // ---- what is best

    public int whom(int dancer) {
        if (!now.has(dancer)) return NONE;
        int best = NEVER;
        int least = LONGEST_LOOK + 1;
        for (int other = 0; other < now.dancers; other++) {
            trial.become(now);
            trial.follow(dancer, other);
            int beats = trial.beatsTillTogether(least - 1, NEVER);
            if (beats != NEVER) {
                least = beats;
                best = other;
            }
        }
        return best;
    }

    public int alone(int dancer, int n, int what) {
        if (!now.has(dancer) || what < 0 || what > 1) return NONE;
        if (n < 1 || n > 30) return BAD;
        int best = 0;
        int most = -1;
        for (int other = 0; other < now.dancers; other++) {
            trial.become(now);
            trial.follow(dancer, other);
            int beats = trial.beatsAlone(dancer, n);
            if (beats > most) {
                most = beats;
                best = other;
            }
        }
        return what == 0 ? best : most;
    }

    public int stop() {
        trial.become(now);
        int without = trial.beatsTillTogether(LONGEST_LOOK, NEVER);
        int least = without == NEVER ? LONGEST_LOOK + 1 : without;
        int best = NEVER;
        for (int behind = 0; behind <= LAST_STOP; behind++) {
            trial.become(now);
            int beats = trial.beatsTillTogether(least - 1, behind);
            if (beats != NEVER) {
                least = beats;
                best = behind;
            }
        }
        return best;
    }

    public int begins(int dancer, int n, int what) {
        if (!now.has(dancer) || what < 0 || what > 1) return NONE;
        if (n < 0 || n > 12) return BAD;
        int places = 0;
        int least = NEVER;
        for (int place = 0; place < now.hall.wide; place++) {
            trial.become(now);
            trial.standAt(dancer, place);
            if (trial.beatsTillTogether(n, NEVER) != NEVER) {
                places++;
                if (least == NEVER) least = place;
            }
        }
        return what == 0 ? places : least;
    }

    public int crowd(int n) {
        if (n < 0 || n > 40) return BAD;
        if (now.dancers == 0) return NEVER;
        Arrays.fill(stood, 0);
        trial.become(now);
        trial.countStanding(stood);
        for (int beat = 1; beat <= n; beat++) {
            trial.goBeat(false);
            trial.countStanding(stood);
        }
        int most = 0;
        for (int place = 1; place < MOST_PLACES; place++) {
            if (stood[place] > stood[most]) most = place;
        }
        return most;
    }

    // ---- seen, odds

    public int see(int dancer, int place, int n) {
        if (dancer == FORGET) {
            hand.seen = 0;
            return 0;
        }
        if (!now.has(dancer)) return NONE;
        if (place < 0 || place >= MOST_PLACES || n < 0 || n > ByHand.LAST_SEEN) return BAD;
        if (hand.seen >= ByHand.MOST_SEEN) return FULL;
        return hand.addSeen(dancer, place, n);
    }

    public int can(int dancer) {
        if (!now.has(dancer)) return NONE;
        int whom = 0;
        for (int other = 0; other < now.dancers; other++) {
            trial.become(now);
            trial.follow(dancer, other);
            if (hand.allSeenOn(trial)) whom |= 1 << other;
        }
        return whom;
    }

    public long odds(int n, int part) {
        if (n < 0 || n > 30 || now.dancers == 0) return NO;
        int good = 0;
        for (int dancer = 0; dancer < now.dancers; dancer++) {
            trial.become(now);
            trial.follow(dancer, dancer);
            if (trial.beatsTillTogether(n, NEVER) != NEVER) good++;
        }
        return partOfFraction(good, now.dancers, part);
    }

    public long mean(int n, int part) {
        if (n < 0 || n > LONGEST_LOOK || now.dancers < 2) return NO;
        trial.become(now);
        trial.goBeats(n);
        int sum = 0;
        int twos = 0;
        for (int one = 0; one < trial.dancers; one++) {
            for (int other = one + 1; other < trial.dancers; other++) {
                sum += trial.apart(one, other);
                twos++;
            }
        }
        return partOfFraction(sum, twos, part);
    }

    // ---- dances, books

    public int dance(int what) {
        if (what == FORGET) {
            hand.steps = 0;
            return 0;
        }
        if (what < ByHand.BEAT || what > ByHand.ROUND) return NONE;
        if (hand.steps >= ByHand.MOST_STEPS) return FULL;
        return hand.addStep(what);
    }

    public int danced(int what) {
        if (!asksForPlaces(what)) return NONE;
        trial.become(now);
        hand.danceOn(trial);
        return placesAsked(what);
    }

    public int book(int dancer, int place) {
        if (dancer == FORGET) {
            hand.rows = 0;
            return 0;
        }
        if (!now.has(dancer)) return NONE;
        if (place < 0 || place >= MOST_PLACES) return BAD;
        if (hand.rows >= ByHand.MOST_ROWS) return FULL;
        return hand.addRow(dancer, place);
    }

    public int looked() {
        return hand.firstWrongRow(now);
    }

    // ---- judging, the image, acts, tapes

    public int judge(int tape, int i) {
        if (!isTape(tape)) return NONE;
        Tape told = tapes[tape];
        if (told.sort != Tape.EMPTY && told.sort != Tape.BYTES) return CAST;
        int all = now.dancers * BACK;
        for (int looked = 0; looked < all; looked++) {
            if (i < 0 || i >= told.length - looked) return ROW_ENDED + looked;
            int dancer = looked / BACK;
            int back = looked % BACK;
            if (told.items[i + looked] != now.wasOf(dancer, back)) return 10 * dancer + back;
        }
        return NEVER;
    }

    public int image() {
        kept.become(now);
        keptHand.become(hand);
        imageTaken = true;
        return now.dancers;
    }

    public int undo() {
        if (!imageTaken) return STATE;
        now.become(kept);
        hand.become(keptHand);
        return now.dancers;
    }

    public int act(int dancer, int act, int x) {
        acts.forgetTrace();
        if (!now.has(dancer) || act < 0 || act >= Acts.SORTS) return 0;
        return acts.play(now, dancer, act, x);
    }

    public int trace(int i) {
        if (i < 0 || i >= acts.ran || i >= Acts.KEPT) return NONE;
        return acts.bodies[i];
    }

    public int taken(int dancer, int k) {
        if (k < 0 || k >= KINDS) return BAD;
        if (!now.has(dancer)) return NOTHING;
        int kind = now.kind[dancer];
        int above = kind;
        for (int level = 0; level < KINDS && above >= 0 && above < KINDS; level++) {
            if (above == k) return kind;
            above = KIND_ABOVE[above];
        }
        return CAST;
    }

    public int count(int what) {
        switch (what) {
            case 0: return now.dancers;
            case 1: return hallCount;
            case 2: return hand.seen;
            case 3: return hand.steps;
            case 4: return hand.rows;
            case 5: return text.length;
            case 6: return acts.ran;
            default: return BAD;
        }
    }

    public int tape(int tape, int sort, int n) {
        if (!isTape(tape)) return NONE;
        if (sort == Tape.EMPTY) {
            tapes[tape].become(Tape.EMPTY, 0);
            return 1;
        }
        if (sort < Tape.BYTES || sort > Tape.BOOLEANS || n > Tape.LONGEST) return BAD;
        if (n < 0) return SIZE;
        tapes[tape].become(sort, n);
        return 1;
    }

    public int item(int tape, int i, long v) {
        if (!isTape(tape)) return NONE;
        Tape row = tapes[tape];
        if (row.sort == Tape.EMPTY) return NOTHING;
        if (i < 0 || i >= row.length) return PLACE;
        row.items[i] = row.fitted(v);
        return 1;
    }

    public long read(int tape, int i) {
        if (!isTape(tape)) return NO;
        Tape row = tapes[tape];
        if (row.sort == Tape.EMPTY || i < 0 || i >= row.length) return NO;
        return row.items[i];
    }

    public int shift(int tape, int i, int other, int j, int n) {
        if (!isTape(tape) || !isTape(other)) return NONE;
        Tape from = tapes[tape];
        Tape to = tapes[other];
        if (from.sort == Tape.EMPTY || to.sort == Tape.EMPTY) return NOTHING;
        if (from.sort != to.sort) return CAST;
        if (!from.hasStretch(i, n) || !to.hasStretch(j, n)) return PLACE;
        System.arraycopy(from.items, i, to.items, j, n);
        return n;
    }

    private boolean asksForPlaces(int what) {
        return what == 0 || what >= FIRST_DANCER && now.has(what - FIRST_DANCER);
    }

    private int placesAsked(int what) {
        return what == 0 ? trial.placesTaken() : trial.wasOf(what - FIRST_DANCER, 0);
    }

    private static boolean isTape(int tape) {
        return tape >= 0 && tape < Tape.MOST;
    }

    private static long partOfFraction(int above, int below, int part) {
        if (part < 0 || part > 1) return NO;
        for (int divisor = below; divisor >= 1; divisor--) {
            if (above % divisor == 0 && below % divisor == 0) return (part == 0 ? above : below) / divisor;
        }
        return NO;
    }

    private static int modulo(int x, int wide) {
        return wide < 1 ? 0 : Math.floorMod(x, wide);
    }

    /** All that a beat looks at and changes, so that questions can go on from a copy of it. */
    private static final class Floor {
        private int dancers;
        private int beat;
        private Hall hall;
        private final int[] kind = new int[MOST_DANCERS];
        private final int[] v = new int[MOST_DANCERS];
        private final int[] follows = new int[MOST_DANCERS];
        private final int[] was = new int[MOST_DANCERS * BACK];
        private final int[] rows = new int[MOST_DANCERS * ROW_PARTS];
        private final int[] next = new int[MOST_DANCERS];

        private Floor(Hall hall) {
            this.hall = hall;
        }

        private void become(Floor other) {
            dancers = other.dancers;
            beat = other.beat;
            hall = other.hall;
            System.arraycopy(other.kind, 0, kind, 0, MOST_DANCERS);
            System.arraycopy(other.v, 0, v, 0, MOST_DANCERS);
            System.arraycopy(other.follows, 0, follows, 0, MOST_DANCERS);
            System.arraycopy(other.was, 0, was, 0, MOST_DANCERS * BACK);
            System.arraycopy(other.rows, 0, rows, 0, MOST_DANCERS * ROW_PARTS);
        }

        private boolean has(int dancer) {
            return dancer >= 0 && dancer < dancers && dancer < MOST_DANCERS;
        }

        private boolean hasPlace(int place) {
            return place >= 0 && place < hall.wide;
        }

        private int wasOf(int dancer, int back) {
            return has(dancer) && back >= 0 && back < BACK ? was[dancer * BACK + back] : 0;
        }

        private int join(int itsKind, int itsV, int place) {
            if (dancers < 0 || dancers >= MOST_DANCERS) return FULL;
            int dancer = dancers;
            dancers++;
            kind[dancer] = itsKind;
            v[dancer] = itsV;
            follows[dancer] = dancer;
            for (int part = 0; part < ROW_PARTS; part++) {
                rows[dancer * ROW_PARTS + part] = 0;
            }
            standAt(dancer, place);
            return dancer;
        }

        private void follow(int dancer, int other) {
            if (has(dancer) && has(other)) follows[dancer] = other;
        }

        private void standAt(int dancer, int place) {
            if (!has(dancer)) return;
            for (int back = 0; back < BACK; back++) {
                was[dancer * BACK + back] = place;
            }
        }

        private void wrapAll() {
            for (int i = 0; i < MOST_DANCERS * BACK; i++) {
                was[i] = modulo(was[i], hall.wide);
            }
        }

        /** What a letter of a hall's tests stands for. */
        private int letterOf(int letter, int dancer) {
            if (dancer < 0 || dancer >= MOST_DANCERS) return 0;
            switch (letter) {
                case 0: return dancer;
                case 1: return kind[dancer];
                case 2: return v[dancer];
                case 3: return was[dancer * BACK];
                case 4: return follows[dancer];
                default: return beat % 10;
            }
        }

        private int goesOf(int dancer) {
            if (!has(dancer)) return 0;
            int step = hall.stepFor(this, dancer);
            int place = wasOf(dancer, 0);
            int two = wasOf(follows[dancer], 2) + step;
            int three = wasOf(follows[dancer], 3) + step;
            int mirrored = hall.wide - 1 - wasOf(follows[dancer], 2) + step;
            int lazy = isLazyNow(dancer) ? place : two;
            switch (kind[dancer]) {
                case LATE: return modulo(three, hall.wide);
                case MIRRORED: return modulo(mirrored, hall.wide);
                case LAZY: return modulo(lazy, hall.wide);
                case HALTING: return modulo(place + modulo(three - place, hall.wide) / 2, hall.wide);
                case TURNING: return modulo(mirrored + beat % 3, hall.wide);
                case TOLD: return modulo(lazy + rows[dancer * ROW_PARTS + modulo(beat, ROW_PARTS)], hall.wide);
                default: return modulo(two, hall.wide);
            }
        }

        private boolean isLazyNow(int dancer) {
            return modulo(beat, v[dancer] + 2) == 0;
        }

        private void goBeat(boolean bandStops) {
            boolean allStay = bandStops || hall.stopsAfter(beat);
            for (int dancer = 0; dancer < dancers; dancer++) {
                next[dancer] = allStay ? wasOf(dancer, 0) : goesOf(dancer);
            }
            for (int dancer = 0; dancer < dancers; dancer++) {
                int first = dancer * BACK;
                System.arraycopy(was, first, was, first + 1, BACK - 1);
                was[first] = next[dancer];
            }
            beat++;
        }

        private void goBeats(int n) {
            for (int i = 0; i < n; i++) {
                goBeat(false);
            }
        }

        /** NEVER for stopBehind lets the band stop by the hall alone. */
        private int beatsTillTogether(int most, int stopBehind) {
            for (int n = 0; n <= most; n++) {
                if (areTogether()) return n;
                goBeat(n == stopBehind);
            }
            return NEVER;
        }

        private int beatsAlone(int dancer, int n) {
            int beats = 0;
            for (int i = 0; i < n; i++) {
                goBeat(false);
                if (isAlone(dancer)) beats++;
            }
            return beats;
        }

        private boolean areTogether() {
            for (int dancer = 1; dancer < dancers; dancer++) {
                if (wasOf(dancer, 0) != wasOf(0, 0)) return false;
            }
            return true;
        }

        private boolean isAlone(int dancer) {
            for (int other = 0; other < dancers; other++) {
                if (other != dancer && wasOf(other, 0) == wasOf(dancer, 0)) return false;
            }
            return true;
        }

        private boolean nobodyMoves() {
            for (int dancer = 0; dancer < dancers; dancer++) {
                if (goesOf(dancer) != wasOf(dancer, 0)) return false;
            }
            return true;
        }

        private boolean standsAs(Floor other) {
            for (int i = 0; i < dancers * BACK; i++) {
                if (was[i] != other.was[i]) return false;
            }
            return true;
        }

        private int placesTaken() {
            int places = 0;
            for (int dancer = 0; dancer < dancers; dancer++) {
                boolean isFirst = true;
                for (int other = 0; other < dancer; other++) {
                    if (wasOf(other, 0) == wasOf(dancer, 0)) isFirst = false;
                }
                if (isFirst) places++;
            }
            return places;
        }

        private int apart(int one, int other) {
            int upward = modulo(wasOf(one, 0) - wasOf(other, 0), hall.wide);
            return Math.min(upward, hall.wide - upward);
        }

        private void countStanding(int[] counts) {
            for (int dancer = 0; dancer < dancers; dancer++) {
                int place = wasOf(dancer, 0);
                if (place >= 0 && place < counts.length) counts[place]++;
            }
        }
    }

    /** The clauses of a hall; each condition is kept as codes, operators behind what they join. */
    private static final class Hall {
        private static final int MOST_CLAUSES = 10;
        private static final int BARE_WIDE = 24;
        private static final int NOT = -1, AND = -2, OR = -3;
        private static final int BELOW = 0, SAME = 1;
        private static final int COMPARISONS = 3;
        private static final int NUMBERS = 100;

        private int wide = BARE_WIDE;
        private int skip;
        private int steps;
        private int codeCount;
        private final int[] amounts = new int[MOST_CLAUSES];
        private final int[] ends = new int[MOST_CLAUSES];
        private final int[] codes = new int[HallText.LONGEST];

        private void clear() {
            wide = BARE_WIDE;
            skip = 0;
            steps = 0;
            codeCount = 0;
        }

        private void setWide(int n) {
            wide = Math.max(1, Math.min(n, MOST_PLACES));
        }

        private void addCode(int code) {
            if (codeCount < 0 || codeCount >= codes.length) return;
            codes[codeCount] = code;
            codeCount++;
        }

        private static int testCode(int letter, int comparison, int number) {
            return (letter * COMPARISONS + comparison) * NUMBERS + number;
        }

        /** The codes since the last one are the condition. */
        private void addStep(int amount) {
            if (steps < 0 || steps >= MOST_CLAUSES) return;
            amounts[steps] = amount;
            ends[steps] = codeCount;
            steps++;
        }

        private boolean stopsAfter(int beat) {
            return skip > 0 && (beat + 1) % skip == 0;
        }

        private int stepFor(Floor floor, int dancer) {
            int sum = 0;
            int from = 0;
            for (int i = 0; i < steps; i++) {
                if (holds(from, ends[i], floor, dancer)) sum += amounts[i];
                from = ends[i];
            }
            return sum;
        }

        private boolean holds(int from, int to, Floor floor, int dancer) {
            // A stack of bits, the newest lowest: a text this short never has 64 waiting.
            long held = 0;
            for (int i = from; i < to; i++) {
                int code = codes[i];
                if (code == NOT) {
                    held = held ^ 1L;
                } else if (code == AND) {
                    held = (held >>> 1) & (held | ~1L);
                } else if (code == OR) {
                    held = (held >>> 1) | (held & 1L);
                } else {
                    held = (held << 1) | (passes(code, floor, dancer) ? 1L : 0L);
                }
            }
            return (held & 1L) == 1L;
        }

        private static boolean passes(int code, Floor floor, int dancer) {
            int number = code % NUMBERS;
            int comparison = code / NUMBERS % COMPARISONS;
            int value = floor.letterOf(code / NUMBERS / COMPARISONS, dancer);
            if (comparison == BELOW) return value < number;
            if (comparison == SAME) return value == number;
            return value > number;
        }
    }

    /** THE TEXT, and the reading of it: where a reading fails, at is left on the fault. */
    private static final class HallText {
        private static final int LONGEST = 100;
        private static final int DEEPEST = 4;
        private static final char END = (char) 255;
        private static final String LETTERS = "dkvpab";
        private static final String COMPARISONS = "<=>";

        private final char[] signs = new char[LONGEST];
        private int length;
        private int at;

        private void add(char sign) {
            if (length < 0 || length >= LONGEST) return;
            signs[length] = sign;
            length++;
        }

        private boolean readInto(Hall target) {
            at = 0;
            target.clear();
            if (!readClause(target)) return false;
            for (int clauses = 1; clauses < Hall.MOST_CLAUSES && takes(';'); clauses++) {
                if (!readClause(target)) return false;
            }
            return at == length;
        }

        private boolean readClause(Hall target) {
            char first = ahead();
            if (!takesAll(wordOf(first))) return false;
            int n = readNumber();
            if (n < 0) return false;
            if (first == 'w') {
                target.setWide(n);
                return true;
            }
            if (first == 's') {
                target.skip = n;
                return true;
            }
            if (!takes(' ') || !readAnyOf(target, 0)) return false;
            target.addStep(first == 'l' ? n : -n);
            return true;
        }

        private static String wordOf(char first) {
            switch (first) {
                case 'l': return "left ";
                case 'r': return "right ";
                case 'w': return "wide ";
                default: return "skip ";
            }
        }

        private boolean readAnyOf(Hall target, int depth) {
            if (!readAllOf(target, depth)) return false;
            for (int more = 0; more < LONGEST && takes('|'); more++) {
                if (!readAllOf(target, depth)) return false;
                target.addCode(Hall.OR);
            }
            return true;
        }

        private boolean readAllOf(Hall target, int depth) {
            if (!readOne(target, depth)) return false;
            for (int more = 0; more < LONGEST && takes('&'); more++) {
                if (!readOne(target, depth)) return false;
                target.addCode(Hall.AND);
            }
            return true;
        }

        private boolean readOne(Hall target, int depth) {
            char first = ahead();
            if (first != '!' && first != '(') return readTest(target);
            if (depth >= DEEPEST) return false;
            at++;
            if (first == '(') return readAnyOf(target, depth + 1) && takes(')');
            if (!readOne(target, depth + 1)) return false;
            target.addCode(Hall.NOT);
            return true;
        }

        private boolean readTest(Hall target) {
            int letter = LETTERS.indexOf(ahead());
            if (letter < 0) return false;
            at++;
            int comparison = COMPARISONS.indexOf(ahead());
            if (comparison < 0) return false;
            at++;
            int n = readNumber();
            if (n < 0) return false;
            target.addCode(Hall.testCode(letter, comparison, n));
            return true;
        }

        /** One digit or two; NONE if there is none. */
        private int readNumber() {
            int n = NONE;
            for (int digits = 0; digits < 2 && at >= 0 && at < length && at < LONGEST; digits++) {
                int digit = signs[at] - '0';
                if (digit < 0 || digit > 9) return n;
                n = n == NONE ? digit : n * 10 + digit;
                at++;
            }
            return n;
        }

        private boolean takesAll(String word) {
            for (int i = 0; i < word.length(); i++) {
                if (!takes(word.charAt(i))) return false;
            }
            return true;
        }

        private boolean takes(char sign) {
            if (ahead() != sign) return false;
            at++;
            return true;
        }

        private char ahead() {
            return at >= 0 && at < length && at < LONGEST ? signs[at] : END;
        }
    }

    /** What is told by hand: what is SEEN, the DANCE, the BOOK. */
    private static final class ByHand {
        private static final int MOST_SEEN = 5, MOST_STEPS = 10, MOST_ROWS = 8;
        private static final int LAST_SEEN = 12;
        private static final int BEAT = 0, STOPPED = 1, ROUND = 2;

        private int seen;
        private final int[] seenDancers = new int[MOST_SEEN];
        private final int[] seenPlaces = new int[MOST_SEEN];
        private final int[] seenBehind = new int[MOST_SEEN];
        private int steps;
        private final int[] dance = new int[MOST_STEPS];
        private int rows;
        private final int[] rowDancers = new int[MOST_ROWS];
        private final int[] rowPlaces = new int[MOST_ROWS];

        private void become(ByHand other) {
            seen = other.seen;
            System.arraycopy(other.seenDancers, 0, seenDancers, 0, MOST_SEEN);
            System.arraycopy(other.seenPlaces, 0, seenPlaces, 0, MOST_SEEN);
            System.arraycopy(other.seenBehind, 0, seenBehind, 0, MOST_SEEN);
            steps = other.steps;
            System.arraycopy(other.dance, 0, dance, 0, MOST_STEPS);
            rows = other.rows;
            System.arraycopy(other.rowDancers, 0, rowDancers, 0, MOST_ROWS);
            System.arraycopy(other.rowPlaces, 0, rowPlaces, 0, MOST_ROWS);
        }

        private int addSeen(int dancer, int place, int n) {
            if (seen < 0 || seen >= MOST_SEEN) return FULL;
            seenDancers[seen] = dancer;
            seenPlaces[seen] = place;
            seenBehind[seen] = n;
            seen++;
            return seen;
        }

        private int addStep(int what) {
            if (steps < 0 || steps >= MOST_STEPS) return FULL;
            dance[steps] = what;
            steps++;
            return steps;
        }

        private int addRow(int dancer, int place) {
            if (rows < 0 || rows >= MOST_ROWS) return FULL;
            rowDancers[rows] = dancer;
            rowPlaces[rows] = place;
            rows++;
            return rows;
        }

        private boolean allSeenOn(Floor floor) {
            for (int n = 0; n <= LAST_SEEN; n++) {
                for (int i = 0; i < seen; i++) {
                    if (seenBehind[i] == n && floor.wasOf(seenDancers[i], 0) != seenPlaces[i]) return false;
                }
                floor.goBeat(false);
            }
            return true;
        }

        private void danceOn(Floor floor) {
            for (int i = 0; i < steps; i++) {
                if (dance[i] == ROUND) {
                    followRound(floor);
                } else {
                    floor.goBeat(dance[i] == STOPPED);
                }
            }
        }

        private static void followRound(Floor floor) {
            for (int dancer = 0; dancer < floor.dancers; dancer++) {
                floor.follow(dancer, dancer + 1 < floor.dancers ? dancer + 1 : 0);
            }
        }

        private int firstWrongRow(Floor floor) {
            for (int i = 0; i < rows; i++) {
                if (floor.wasOf(rowDancers[i], 0) != rowPlaces[i]) return i;
            }
            return NEVER;
        }
    }

    /** The bodies of acts, and the trace of those that ran. */
    private static final class Acts {
        private static final int STEPS = 0, TURNS = 1, TELLS = 2;
        private static final int SORTS = 3;
        private static final int KEPT = 20;
        private static final int DEEPEST = 40;
        /** By KIND, the bodies it has of steps, turns, tells; 0 if none. */
        private static final int[] BODIES = {
            10, 11, 12,
            0, 20, 0,
            30, 0, 0,
            0, 0, 40,
            50, 51, 0,
            0, 0, 60,
            71, 70, 0
        };

        private int ran;
        private final int[] bodies = new int[KEPT];
        private int kind;
        private int v;
        private int number;

        private void forgetTrace() {
            ran = 0;
        }

        private int play(Floor floor, int dancer, int sort, int x) {
            if (!floor.has(dancer)) return 0;
            kind = floor.kind[dancer];
            v = floor.v[dancer];
            number = dancer;
            return run(sort, kind, x, 0);
        }

        /** Runs the body of the first KIND that has one, from one on upward. */
        private int run(int sort, int from, int x, int depth) {
            if (depth > DEEPEST) return 0;
            int body = bodyOf(sort, from);
            if (ran < KEPT) bodies[ran] = body;
            ran++;
            return runBody(body, x, depth + 1);
        }

        private int runBody(int body, int x, int depth) {
            switch (body) {
                case 10: return x + number;
                case 11: return run(STEPS, kind, x, depth) - v;
                case 12: return run(TURNS, kind, x, depth) * 2;
                case 20: return run(TURNS, DANCER, x, depth) ^ 6;
                case 30: return run(STEPS, DANCER, x * 3, depth);
                case 40: return run(TELLS, DANCER, x, depth) + run(TURNS, kind, 1, depth);
                case 50: return -run(STEPS, LATE, x, depth);
                case 51: return run(TURNS, LATE, x + 1, depth);
                case 60: return run(TELLS, MIRRORED, x - number, depth);
                case 70: return run(TURNS, LAZY, x, depth) + run(STEPS, LAZY, 2, depth);
                case 71: return run(STEPS, LAZY, x, depth) ^ v;
                default: return 0;
            }
        }

        private static int bodyOf(int sort, int from) {
            int above = from;
            for (int level = 0; level < KINDS && above >= 0 && above < KINDS; level++) {
                int at = above * SORTS + sort;
                if (at >= 0 && at < BODIES.length && BODIES[at] != 0) return BODIES[at];
                above = KIND_ABOVE[above];
            }
            return 0;
        }
    }

    /** A row of items of one sort, or nothing; items are kept cut to their sort. */
    private static final class Tape {
        private static final int MOST = 6;
        private static final int LONGEST = 60;
        private static final int EMPTY = -1, BYTES = 0, SHORTS = 1, INTS = 2, BOOLEANS = 4;

        private int sort = EMPTY;
        private int length;
        private final long[] items = new long[LONGEST];

        private void become(int itsSort, int n) {
            sort = itsSort;
            length = Math.max(0, Math.min(n, LONGEST));
            Arrays.fill(items, 0L);
        }

        private long fitted(long value) {
            switch (sort) {
                case BYTES: return (byte) value;
                case SHORTS: return (short) value;
                case INTS: return (int) value;
                case BOOLEANS: return value != 0 ? 1 : 0;
                default: return value;
            }
        }

        private boolean hasStretch(int from, int n) {
            return n >= 0 && from >= 0 && from <= length - n;
        }
    }
}
