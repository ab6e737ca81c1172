/** The edges that part 1 of the terms and promises 1 to 9 name: dancers, places, halls, what goes where. */
public final class HallEdgesTest {
    private static final Check check = new Check();
    private static final int[] FAR_OFF = {-1000, Integer.MIN_VALUE, Integer.MIN_VALUE + 10, 1000, Integer.MAX_VALUE};
    private static final String DIGITS = "0123456789";
    private static final String BEGINS_F = "!(dkvpab";

    public static void main(String[] args) {
        dancersCome();
        farOff();
        orders();
        atFirst();
        textHolds();
        bytesThatGoOn();
        clauses();
        numbers();
        depths();
        cutAndSpoilt();
        manyFaults();
        testsHold();
        beatModuloTen();
        stepSums();
        wideAndSkip();
        hallWraps();
        goesRound();
        haltingHalves();
        lazyStays();
        turningTurns();
        toldRows();
        tellsPlaces();
        check.end("HallEdgesTest");
    }

    private static TwoBeatsAgo at(int... places) {
        TwoBeatsAgo x = new TwoBeatsAgo();
        for (int place : places) {
            x.dancer(0, 0, place);
        }
        return x;
    }

    /** DANCERS 0 .. 5, KINDS 0 .. 6, v 0 .. 9, a PLACE 0 .. WIDE less 1. */
    private static void dancersCome() {
        for (int kind = 0; kind <= 6; kind++) {
            TwoBeatsAgo x = new TwoBeatsAgo();
            check.due("2: KIND " + kind, x.dancer(kind, 0, 0), 0);
            check.due("2: KIND " + kind, x.of(0, 0), kind);
        }
        for (int v = 0; v <= 9; v++) {
            TwoBeatsAgo x = new TwoBeatsAgo();
            check.due("2: v " + v, x.dancer(3, v, 0), 0);
            check.due("2: v " + v, x.of(0, 1), v);
        }
        int[] wides = {1, 2, 24, 99};
        for (int wide : wides) {
            TwoBeatsAgo x = new TwoBeatsAgo();
            Check.hall(x, "wide " + wide);
            check.due("2: WIDE " + wide + ", beyond", x.dancer(0, 0, wide), -2);
            check.due("2: WIDE " + wide + ", nobody came", x.count(0), 0);
            check.due("2: WIDE " + wide + ", the last place", x.dancer(0, 0, wide - 1), 0);
            check.due("2: WIDE " + wide + ", below", x.dancer(0, 0, -1), -2);
            check.due("2: WIDE " + wide + ", the first place", x.dancer(0, 0, 0), 1);
            check.due("5: WIDE " + wide + ", beyond", x.begin(1, wide), -2);
            check.due("5: WIDE " + wide + ", the last place", x.begin(1, wide - 1), 0);
            check.due("5: WIDE " + wide + ", the first place", x.begin(1, 0), wide - 1);
        }
        TwoBeatsAgo x = at(0, 1, 2, 3, 4, 5);
        for (int dancer = 0; dancer < 6; dancer++) {
            check.due("2: as they come", x.of(dancer, 10), dancer);
            check.due("4: the sixth", x.after(dancer, 5), dancer);
        }
        check.due("2: a seventh", x.dancer(0, 0, 0), -4);
        check.due("3: a seventh", x.of(6, 0), -1001);
        check.due("4: a seventh", x.after(6, 0), -1);
        check.due("4: a seventh", x.after(0, 6), -1);
    }

    private static void farOff() {
        TwoBeatsAgo x = new TwoBeatsAgo();
        x.dancer(6, 3, 7);
        for (int far : FAR_OFF) {
            check.due("2: kind " + far, x.dancer(far, 0, 0), -1);
            check.due("2: v " + far, x.dancer(0, far, 0), -2);
            check.due("2: place " + far, x.dancer(0, 0, far), -2);
            check.due("3: dancer " + far, x.of(far, 0), -1001);
            check.due("3: what " + far, x.of(0, far), -1001);
            check.due("4: dancer " + far, x.after(far, 0), -1);
            check.due("4: other " + far, x.after(0, far), -1);
            check.due("5: dancer " + far, x.begin(far, 0), -1);
            check.due("5: place " + far, x.begin(0, far), -2);
            check.due("6: dancer " + far, x.row(far, 0, 0), -1);
            check.due("6: part " + far, x.row(0, far, 0), -1);
            check.due("6: n " + far, x.row(0, 0, far), -2);
            check.due("7: sign " + far, x.feed(far), -2);
            check.due("9: what " + far, x.told(far), -1);
        }
        check.due("2: one dancer", x.count(0), 1);
        check.due("7: no text", x.count(5), 0);
        for (int what = -3; what < 30; what++) {
            boolean is = what >= 0 && what <= 4 || what >= 10 && what <= 17;
            int[] due = {6, 3, 0, 0, 7};
            check.due("3: what " + what, x.of(0, what), !is ? -1001 : what < 5 ? due[what] : 7);
        }
        for (int what = -3; what < 10; what++) {
            int[] due = {0, 24, 0, 1};
            check.due("9: what " + what, x.told(what), what >= 0 && what < 4 ? due[what] : -1);
        }
    }

    /** The first that a call's words name. */
    private static void orders() {
        TwoBeatsAgo x = at(1, 2, 3, 4, 5, 6);
        check.due("2: kind, v, place, six", x.dancer(-1, -1, -1), -1);
        check.due("2: kind, six", x.dancer(7, 0, 0), -1);
        check.due("2: v, six", x.dancer(0, 10, 0), -2);
        check.due("2: place, six", x.dancer(0, 0, 24), -2);
        check.due("2: six", x.dancer(0, 0, 0), -4);
        check.due("5: dancer, place", x.begin(6, 24), -1);
        check.due("6: dancer, n", x.row(6, 0, 10), -1);
        check.due("6: part, n, KIND", x.row(0, 4, 10), -1);
        check.due("6: part, KIND", x.row(0, -1, 0), -1);
        check.due("6: n, KIND", x.row(0, 0, -1), -2);
        check.due("6: KIND", x.row(0, 0, 0), -3);
        for (int kind = 0; kind < 6; kind++) {
            TwoBeatsAgo one = new TwoBeatsAgo();
            one.dancer(kind, 0, 0);
            check.due("6: KIND " + kind, one.row(0, 3, 9), -3);
        }
    }

    /** AFTER: itself at first; WAS where it begins; BEAT 0; a ROW of 0. */
    private static void atFirst() {
        TwoBeatsAgo x = new TwoBeatsAgo();
        x.pass(60);
        for (int dancer = 0; dancer < 6; dancer++) {
            x.dancer(6, 9 - dancer, 3 * dancer);
            check.due("1: AFTER at first", x.of(dancer, 2), dancer);
            for (int back = 0; back < 8; back++) {
                check.due("1: WAS " + back + " at first", x.of(dancer, 10 + back), 3 * dancer);
            }
            for (int part = 0; part < 4; part++) {
                check.due("1: ROW at first", x.row(dancer, part, 9), 0);
                check.due("1: ROW then", x.row(dancer, part, 0), 9);
            }
            check.due("3: STEP without a HALL", x.of(dancer, 3), 0);
        }
    }

    /** THE TEXT: bytes 0 .. 127, 100 at most; empty then. */
    private static void textHolds() {
        for (int sign = 0; sign <= 127; sign++) {
            TwoBeatsAgo x = new TwoBeatsAgo();
            check.due("7: feed(" + sign + ")", x.feed(sign), 1);
            check.due("7: feed(" + sign + ") again", x.feed(sign), 2);
        }
        TwoBeatsAgo x = new TwoBeatsAgo();
        for (int count = 1; count <= 99; count++) {
            x.feed('d');
        }
        check.due("7: 99", x.count(5), 99);
        check.due("7: the 100th", x.feed('d'), 100);
        check.due("7: the 101st", x.feed('d'), -4);
        check.due("7: BAD ahead of FULL", x.feed(-1), -2);
        check.due("7: 100 stay", x.count(5), 100);
        check.due("8: a fault", x.hall(), -10);
        check.due("8: THE TEXT is empty then", x.count(5), 0);
        check.due("7: the first again", x.feed('x'), 1);
        String longest = "left 1 d=0" + "|d=00".repeat(18);
        check.due("8: 100 bytes", longest.length(), 100);
        TwoBeatsAgo y = at(3);
        check.due("8: a HALL of 100 bytes", Check.hall(y, longest), 0);
        check.due("8: its STEP", y.of(0, 3), 1);
        check.due("8: 100 bytes that end too early", Check.hall(y, "left 11 d=0" + "|d=0".repeat(22) + "|"), -110);
        check.due("8: the 100th byte", Check.hall(y, "left 11 d=0" + "|d=0".repeat(22) + ")"), -109);
        // The 101st byte is refused: without it the text is a hall.
        check.due("8: the 101st byte does not come", Check.hall(y, longest + "~"), 1);
    }

    /** Each byte behind a beginning: goes on by those that are told, is the FAULT by all others. */
    private static void goOn(String beginning, String those) {
        for (int sign = 0; sign <= 127; sign++) {
            TwoBeatsAgo x = new TwoBeatsAgo();
            int got = Check.hall(x, beginning + (char) sign);
            if (those.indexOf(sign) < 0) {
                check.due("8: '" + beginning + "' and byte " + sign, got, -10 - beginning.length());
            } else if (got != 0) {
                check.due("8: '" + beginning + "' and byte " + sign, got, -11 - beginning.length());
            }
        }
    }

    private static void bytesThatGoOn() {
        String letters = BEGINS_F.substring(2);
        goOn("", "lrws");
        String[] words = {"left", "right", "wide", "skip"};
        for (String word : words) {
            for (int length = 1; length < word.length(); length++) {
                goOn(word.substring(0, length), word.substring(length, length + 1));
            }
            boolean hasTest = word.charAt(0) < 's';
            goOn(word, " ");
            goOn(word + " ", DIGITS);
            goOn(word + " 0", DIGITS + (hasTest ? " " : ";"));
            goOn(word + " 10", hasTest ? " " : ";");
        }
        for (int i = 0; i < letters.length(); i++) {
            String letter = letters.substring(i, i + 1);
            goOn("right 07 " + letter, "<=>");
            goOn("left 7 " + letter + ">", DIGITS);
            goOn("left 7 !" + letter + "<9", DIGITS + "&|;");
        }
        goOn("left 1 ", BEGINS_F);
        goOn("left 1 !", BEGINS_F);
        goOn("left 1 (", BEGINS_F);
        goOn("left 1 d=0&", BEGINS_F);
        goOn("left 1 d=0|", BEGINS_F);
        goOn("left 1 (d=0&", BEGINS_F);
        goOn("left 1 d=0", DIGITS + "&|;");
        goOn("left 1 d=00", "&|;");
        goOn("left 1 (d=0", DIGITS + "&|)");
        goOn("left 1 (d=00", "&|)");
        goOn("left 1 (d=0)", "&|;");
        goOn("left 1 ((d=0)", "&|)");
        goOn("left 1 !(d=0)", "&|;");
        goOn("left 1 d=0;", "lrws");
        goOn("wide 0;", "lrws");
    }

    /** CLAUSES, 1 to 10, with ; between. */
    private static void clauses() {
        check.due("8: no clause", new TwoBeatsAgo().hall(), -10);
        check.due("8: a ; alone", Check.hall(new TwoBeatsAgo(), ";"), -10);
        String ten = "skip 9;left 1 b>0;wide 3;skip 8;right 1 d<9;wide 7;skip 7;left 3 d=0;wide 5;skip 6";
        for (int count = 1; count <= 10; count++) {
            TwoBeatsAgo x = new TwoBeatsAgo();
            check.due("8: " + count + " clauses", Check.hall(x, "wide 2;".repeat(count - 1) + "wide 3"), 0);
            check.due("8: the last of " + count, x.told(1), 3);
            check.due("8: " + count + " and ;", Check.hall(x, "wide 2;".repeat(count)), count < 10 ? -10 - 7 * count : -79);
        }
        TwoBeatsAgo x = at(0);
        check.due("8: ten clauses", Check.hall(x, ten), 0);
        check.due("8: WIDE of ten", x.told(1), 5);
        check.due("8: SKIP of ten", x.told(2), 6);
        check.due("8: STEP of ten", x.of(0, 3), 2);
        check.due("8: eleven", Check.hall(x, ten + ";wide 4"), -10 - ten.length());
        check.due("8: ten hold still", x.told(1), 5);
        goOn(ten, DIGITS);
        goOn(ten + "0", "");
        goOn("skip 1;".repeat(9) + "left 1 d=0", DIGITS + "&|");
        goOn("skip 1;".repeat(8) + "left 1 d=0", DIGITS + "&|;");
        String nine = "left 1 d=0;".repeat(8) + "left 2 d=0";
        check.due("8: nine of left", Check.hall(x, nine), 1);
        check.due("3: STEP of nine", x.of(0, 3), 10);
    }

    /** n and numbers: 1 or 2 digits. */
    private static void numbers() {
        String[] texts = {"0", "1", "9", "10", "99", "00", "05", "09"};
        for (String text : texts) {
            int n = Integer.parseInt(text);
            TwoBeatsAgo x = at(5);
            check.due("8: wide " + text, Check.hall(x, "wide " + text), 0);
            check.due("8: WIDE by " + text, x.told(1), Math.max(1, n));
            check.due("8: skip " + text, Check.hall(x, "skip " + text), 1);
            check.due("8: SKIP by " + text, x.told(2), n);
            check.due("8: left " + text, Check.hall(x, "left " + text + " d=" + "0"), 2);
            check.due("3: STEP by left " + text, x.of(0, 3), n);
            check.due("8: right " + text, Check.hall(x, "right " + text + " d<" + text + "|d=0"), 3);
            check.due("3: STEP by right " + text, x.of(0, 3), -n);
        }
        fault("wide 000", 7);
        fault("skip 100", 7);
        fault("left 100 d=0", 7);
        fault("right 100 d=0", 8);
        fault("left 1 d=100", 11);
        fault("left 1 d=000", 11);
        fault("left  1 d=0", 5);
        fault("left1 d=0", 4);
        fault("left 1d=0", 6);
        fault("left\t1 d=0", 4);
        fault("left 1\td=0", 6);
        fault("left 1 d =0", 8);
        fault("left 1 d= 0", 9);
        fault("left 1 d=0 ", 10);
        fault(" wide 1", 0);
        fault("wide 1; wide 1", 7);
        fault("wide 1 ;wide 1", 6);
        fault("wide -1", 5);
        fault("skip +1", 5);
    }

    private static void fault(String text, int place) {
        TwoBeatsAgo x = new TwoBeatsAgo();
        check.due("8: hall() by '" + text + "'", Check.hall(x, text), -10 - place);
        check.due("8: no HALL by '" + text + "'", x.count(1), 0);
        check.due("8: empty then by '" + text + "'", x.count(5), 0);
    }

    /** A ( or ! within 4 others is none. */
    private static void depths() {
        String[] fours = {"((((", "!!!!", "(!(!", "!(!(", "((!!", "!!(("};
        for (String four : fours) {
            for (int length = 0; length < 4; length++) {
                goOn("left 1 " + four.substring(0, length), BEGINS_F);
                goOn("left 1 d=1&" + four.substring(0, length), BEGINS_F);
            }
            goOn("left 1 " + four, BEGINS_F.substring(2));
            goOn("left 1 d=1|" + four, BEGINS_F.substring(2));
            goOn("left 1 " + four + "d", "<=>");
        }
        goOn("left 1 ((((d=1|", BEGINS_F.substring(2));
        goOn("left 1 ((((d=1)&", BEGINS_F);
        goOn("left 1 (((!d=1&", BEGINS_F);
        goOn("left 1 (((!d=1)|", BEGINS_F);
        goOn("left 1 !!!!d=1|", BEGINS_F);
        goOn("left 1 !!!(d=1&", BEGINS_F.substring(2));
        goOn("left 1 ((((d=1))))&", BEGINS_F);
        goOn("left 1 ((((d=1))))", "&|;");
        goOn("left 1 ((((d=1)))", "&|)");
        goOn("left 1 d=1;left 1 !!!!", BEGINS_F.substring(2));
        TwoBeatsAgo x = at(3, 3);
        check.due("8: four and four", Check.hall(x, "left 1 !!!!d=1&((((d=1))))|!(!(d=1))&!!(!d=1)"), 0);
        check.due("3: STEP of 0", x.of(0, 3), 0);
        check.due("3: STEP of 1", x.of(1, 3), 1);
    }

    /** The FAULT: of each beginning of a text its end, of each spoilt byte its place. */
    private static void cutAndSpoilt() {
        String text = "left 12 (d=1|!k<22)&v>3;right 3 p=45&(a=1&b=9);wide 16;skip 4";
        java.util.Set<Integer> halls = java.util.Set.of(19, 23, 35, 36, 46, 53, 54, 61);
        for (int length = 0; length <= text.length(); length++) {
            TwoBeatsAgo x = new TwoBeatsAgo();
            check.due("8: " + length + " bytes", Check.hall(x, text.substring(0, length)), halls.contains(length) ? 0 : -10 - length);
            check.due("8: THE TEXT is empty", x.count(5), 0);
            if (length == text.length()) continue;
            String spoilt = text.substring(0, length) + "~" + text.substring(length + 1);
            check.due("8: byte " + length + " spoilt", Check.hall(new TwoBeatsAgo(), spoilt), -10 - length);
        }
        check.due("8: one byte more", Check.hall(new TwoBeatsAgo(), text + "~"), -10 - text.length());
        check.due("8: the first of two", Check.hall(new TwoBeatsAgo(), "wide 1x;wide 2y"), -16);
    }

    /** Texts that are none leave nothing behind, however many there were. */
    private static void manyFaults() {
        TwoBeatsAgo x = at(23);
        for (int i = 0; i < 4; i++) {
            check.due("8: a fault", Check.hall(x, "wide 3;skip 2;left 9 d=5" + "|d=5".repeat(18) + ";x"), -107);
            check.due("8: WIDE stays", x.told(1), 24);
            check.due("8: SKIP stays", x.told(2), 0);
            check.due("8: the place stays", x.of(0, 10), 23);
            check.due("8: STEP stays", x.of(0, 3), 0);
        }
        check.due("8: no HALL", x.count(1), 0);
        check.due("8: the first", Check.hall(x, "left 1 d=0&d<1|d=7;right 3 d>0"), 0);
        check.due("8: its STEP", x.of(0, 3), 1);
        check.due("8: its WIDE", x.told(1), 24);
        check.due("8: its SKIP", x.told(2), 0);
    }

    /** Each letter by each comparison with each number 0 .. 99. */
    private static void testsHold() {
        int[] values = {5, 4, 9, 98, 3, 7};
        for (int letter = 0; letter < 6; letter++) {
            for (int number = 0; number <= 99; number++) {
                TwoBeatsAgo x = new TwoBeatsAgo();
                Check.hall(x, "wide 99");
                for (int dancer = 0; dancer < 6; dancer++) {
                    x.dancer(dancer == 5 ? 4 : 0, 9, 98);
                }
                x.after(5, 3);
                x.pass(57);
                for (int comparison = 0; comparison < 3; comparison++) {
                    String test = "" + "dkvpab".charAt(letter) + "<=>".charAt(comparison) + number;
                    check.due("8: left 1 " + test, Check.hall(x, "wide 99;left 1 " + test), 1 + comparison);
                    boolean holds = Integer.compare(values[letter], number) == comparison - 1;
                    check.due("3: STEP by " + test, x.of(5, 3), holds ? 1 : 0);
                }
            }
        }
        TwoBeatsAgo x = at(0);
        Check.hall(x, "left 1 p=00&d<01&b<05&!a>00");
        check.due("3: two digits", x.of(0, 3), 1);
    }

    private static void beatModuloTen() {
        for (int digit = 0; digit <= 11; digit++) {
            TwoBeatsAgo x = at(0);
            Check.hall(x, "left 1 b=" + digit);
            for (int beat = 0; beat <= 31; beat++) {
                check.due("3: b=" + digit + " at BEAT " + beat, x.of(0, 3), beat % 10 == digit ? 1 : 0);
                x.pass(1);
            }
        }
    }

    private static void stepSums() {
        TwoBeatsAgo x = at(0);
        Check.hall(x, "right 99 d=0;".repeat(7) + "wide 99");
        check.due("3: STEP far below 0", x.of(0, 3), -693);
        check.due("3: GOES then", x.of(0, 4), 0);
        Check.hall(x, "right 99 d=0;".repeat(7) + "wide 98");
        check.due("3: GOES then", x.of(0, 4), 91);
        Check.hall(x, "left 99 d=0;".repeat(7) + "wide 98");
        check.due("3: STEP far above", x.of(0, 3), 693);
        check.due("3: GOES then", x.of(0, 4), 7);
        Check.hall(x, "left 99 d=0;right 99 d=0");
        check.due("3: STEP 0", x.of(0, 3), 0);
        Check.hall(x, "left 0 d=0;right 0 d=0");
        check.due("3: STEP by n 0", x.of(0, 3), 0);
        Check.hall(x, "left 2 d=0;right 3 d=0");
        check.due("3: STEP below 0", x.of(0, 3), -1);
        check.due("3: GOES to the last place", x.of(0, 4), 23);
    }

    /** WIDE: 24 without, 1 if less, the last n; SKIP: 0 without, the last n. */
    private static void wideAndSkip() {
        String[] halls = {"wide 1", "wide 0", "wide 99", "wide 9;wide 0", "wide 0;wide 2", "skip 5;skip 0", "skip 99", "wide 3;skip 1"};
        int[] wides = {1, 1, 99, 1, 2, 24, 24, 3};
        int[] skips = {0, 0, 0, 0, 0, 0, 99, 1};
        for (int i = 0; i < halls.length; i++) {
            TwoBeatsAgo x = at(5);
            check.due("8: " + halls[i], Check.hall(x, halls[i]), 0);
            check.due("9: WIDE by " + halls[i], x.told(1), wides[i]);
            check.due("9: SKIP by " + halls[i], x.told(2), skips[i]);
            check.due("8: the place by " + halls[i], x.of(0, 10), 5 % wides[i]);
            check.due("8: the next", Check.hall(x, "left 1 d=9"), 1);
            check.due("9: WIDE without", x.told(1), 24);
            check.due("9: SKIP without", x.told(2), 0);
        }
        for (int skip = 0; skip <= 13; skip++) {
            TwoBeatsAgo x = at(0, 0);
            Check.hall(x, "left 1 d=0;skip " + skip);
            for (int beat = 0; beat <= 30; beat++) {
                int stays = x.of(0, 10);
                int goes = x.of(0, 4);
                int[] was = new int[8];
                for (int back = 0; back < 8; back++) {
                    was[back] = x.of(0, 10 + back);
                }
                check.due("10: BEAT with SKIP " + skip, x.pass(1), beat + 1);
                boolean stops = skip > 0 && (beat + 1) % skip == 0;
                check.due("10: SKIP " + skip + ", WAS 0 at BEAT " + (beat + 1), x.of(0, 10), stops ? stays : goes);
                for (int back = 1; back < 8; back++) {
                    check.due("10: SKIP " + skip + ", WAS " + back + " at BEAT " + (beat + 1), x.of(0, 10 + back), was[back - 1]);
                }
            }
        }
    }

    /** All WAS of all become what they are modulo WIDE. */
    private static void hallWraps() {
        TwoBeatsAgo x = new TwoBeatsAgo();
        Check.hall(x, "wide 99;left 20 d=5");
        for (int dancer = 0; dancer < 6; dancer++) {
            x.dancer(0, 0, 18 + dancer);
        }
        x.pass(7);
        int[] walked = {83, 63, 63, 63, 43, 43, 43, 23};
        for (int back = 0; back < 8; back++) {
            check.due("8: WAS " + back, x.of(5, 10 + back), walked[back]);
        }
        check.due("8: a wider one", Check.hall(x, "wide 84"), 1);
        check.due("8: the last place stays", x.of(5, 10), 83);
        check.due("8: a narrower one", Check.hall(x, "wide 83"), 2);
        check.due("8: WIDE is 0", x.of(5, 10), 0);
        check.due("8: another one", Check.hall(x, "wide 20"), 3);
        int[] wrapped = {0, 3, 3, 3, 3, 3, 3, 3};
        for (int back = 0; back < 8; back++) {
            check.due("8: WAS " + back + " wrapped", x.of(5, 10 + back), wrapped[back]);
        }
        for (int dancer = 0; dancer < 5; dancer++) {
            check.due("8: of all, now", x.of(dancer, 10), (18 + dancer) % 20);
            check.due("8: of all, seven ago", x.of(dancer, 17), (18 + dancer) % 20);
        }
        check.due("8: a fault", Check.hall(x, "wide 2;wide"), -21);
        check.due("8: nothing wraps at a fault", x.of(1, 10), 19);
        check.due("8: wide 1", Check.hall(x, "wide 1"), 4);
        for (int dancer = 0; dancer < 6; dancer++) {
            check.due("8: all at 0", x.of(dancer, 10), 0);
            check.due("8: all at 0", x.of(dancer, 17), 0);
        }
        check.due("9: on one place", x.told(3), 1);
        Check.hall(x, "wide 30");
        x.begin(2, 29);
        check.due("8: six", x.count(1), 6);
        check.due("8: FULL", Check.hall(x, "wide 3"), -4);
        check.due("8: nothing wraps when FULL", x.of(2, 10), 29);
        check.due("8: the sixth holds", x.told(1), 30);
    }

    /** Each KIND by each STEP: in the ring, 0 at least, WIDE less 1 at most. */
    private static void goesRound() {
        int[] wides = {1, 2, 7, 24, 99};
        for (int wide : wides) {
            for (int step = -99; step <= 99; step += wide > 24 ? 1 : 9) {
                goesRound(wide, step);
            }
        }
    }

    private static void goesRound(int wide, int step) {
        TwoBeatsAgo x = new TwoBeatsAgo();
        String steps = (step < 0 ? "right " + -step : "left " + step) + " d<6";
        Check.hall(x, "wide " + wide + ";" + steps);
        int place = wide / 3;
        for (int dancer = 0; dancer < 6; dancer++) {
            x.dancer(dancer + (dancer > 2 ? 1 : 0), 3, place);
            x.after(dancer, 0);
        }
        // BEAT 0: LAZY and TOLD would stay where they are; at BEAT 1 they go.
        x.pass(1);
        for (int dancer = 0; dancer < 6; dancer++) {
            x.begin(dancer, place);
        }
        x.row(5, 1, 9);
        int plain = Math.floorMod(place + step, wide);
        int mirrored = Math.floorMod(wide - 1 - place + step, wide);
        int half = Math.floorMod(place + Math.floorMod(plain - place, wide) / 2, wide);
        int[] due = {plain, plain, mirrored, half, (mirrored + 1) % wide, (plain + 9) % wide};
        for (int dancer = 0; dancer < 6; dancer++) {
            String name = "3: WIDE " + wide + ", STEP " + step + ", GOES of KIND " + x.of(dancer, 0);
            check.due(name, x.of(dancer, 4), due[dancer]);
            check.due(name + ", a BEAT on", x.on(1, 10 + dancer), due[dancer]);
        }
    }

    /** HALTING: the half (cut) of 0 .. WIDE less 1 further upward in the ring. */
    private static void haltingHalves() {
        int[] wides = {1, 2, 3, 10};
        for (int wide : wides) {
            TwoBeatsAgo x = new TwoBeatsAgo();
            Check.hall(x, "wide " + wide);
            x.dancer(4, 0, 0);
            x.dancer(0, 0, 0);
            x.after(0, 1);
            for (int place = 0; place < wide; place++) {
                for (int further = 0; further < wide; further++) {
                    x.begin(0, place);
                    x.begin(1, (place + further) % wide);
                    check.due("3: WIDE " + wide + ", HALTING " + further + " further", x.of(0, 4), (place + further / 2) % wide);
                }
            }
        }
    }

    /** LAZY, TOLD: its place now, if BEAT is a multiple of v and 2 (0 is one). */
    private static void lazyStays() {
        for (int v = 0; v <= 9; v++) {
            TwoBeatsAgo x = new TwoBeatsAgo();
            x.dancer(3, v, 10);
            x.dancer(6, v, 10);
            x.dancer(0, v, 2);
            x.after(0, 2);
            x.after(1, 2);
            Check.hall(x, "left 1 d<2");
            for (int beat = 0; beat <= 34; beat++) {
                x.begin(0, 10);
                x.begin(1, 10);
                int due = beat % (v + 2) == 0 ? 10 : 3;
                check.due("3: LAZY with v " + v + " at BEAT " + beat, x.of(0, 4), due);
                check.due("3: TOLD with v " + v + " at BEAT " + beat, x.of(1, 4), due);
                x.pass(1);
            }
        }
    }

    /** TURNING: BEAT modulo 3 more, in the ring. */
    private static void turningTurns() {
        TwoBeatsAgo x = new TwoBeatsAgo();
        x.dancer(5, 0, 23);
        x.dancer(0, 0, 1);
        x.after(0, 1);
        int[] due = {22, 23, 0};
        for (int beat = 0; beat <= 12; beat++) {
            check.due("3: TURNING at BEAT " + beat, x.of(0, 4), due[beat % 3]);
            x.pass(1);
        }
    }

    /** TOLD: its ROW at BEAT modulo 4 more, in the ring, also when it stays. */
    private static void toldRows() {
        TwoBeatsAgo x = new TwoBeatsAgo();
        x.dancer(6, 3, 20);
        x.dancer(6, 3, 20);
        int[] row = {9, 1, 4, 3};
        for (int part = 0; part < 4; part++) {
            x.row(0, part, row[part]);
        }
        for (int beat = 0; beat <= 20; beat++) {
            x.begin(0, 20);
            check.due("3: TOLD at BEAT " + beat, x.of(0, 4), (20 + row[beat % 4]) % 24);
            check.due("3: the other's ROW", x.of(1, 4), 20);
            x.pass(1);
        }
        check.due("6: the ROW's last", x.row(0, 3, 0), 3);
        check.due("6: the ROW's first", x.row(0, 0, 0), 9);
        check.due("6: the other's ROW", x.row(1, 0, 0), 0);
    }

    /** On how many PLACES there is somebody: 0 .. 6. */
    private static void tellsPlaces() {
        TwoBeatsAgo x = new TwoBeatsAgo();
        check.due("9: nobody", x.told(3), 0);
        for (int dancer = 0; dancer < 6; dancer++) {
            x.dancer(0, 0, 9);
            check.due("9: all on one", x.told(3), 1);
        }
        for (int dancer = 0; dancer < 5; dancer++) {
            x.begin(dancer, dancer);
            check.due("9: one more", x.told(3), dancer + 2);
        }
        for (int dancer = 0; dancer < 5; dancer++) {
            x.begin(dancer, dancer / 2);
        }
        check.due("9: 0, 0, 1, 1, 2, 9", x.told(3), 4);
    }
}
