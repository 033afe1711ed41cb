import java.io.IOException;
import java.util.Arrays;

/**
 * What the document says of all calls, of signs and texts, and of looks: a test for each sentence that names a
 * boundary, just inside it and just beyond it.
 */
public final class WordsBoundariesTest {
    private static final Class<?> OUT = Home.OUT;
    private static final Class<?> ARGUMENT = Home.ARGUMENT;
    private static final Class<?> STATE = Home.STATE;
    private static final int MIN = Home.MIN;
    private static final int MAX = Home.MAX;
    private static final int NONE = -1;
    private static final String SIGNS = Home.SIGNS;
    private static final int[] CODES = {
        97, 98, 99, 120, 65, 66, 67, 88, 48, 49, 55, 57, 44, 46, 45, 95, 32, 9, 10, 1, 28, 160, 233, 201
    };
    private static final String WHITE = " \t\n\034";
    private static final String LOW = " \t\n\001\034";
    private static final String[] KNOWN = {"", "a", "ab", "A", ",", "x.x", "aB-1"};

    private static String sign(int sign) {
        return SIGNS.substring(sign, sign + 1);
    }

    private static String many(String part, int times) {
        return part.repeat(times);
    }

    // ---- what holds for all calls

    private static void at512Calls() {
        used511Times().answersAtLast(512, "knock");
        used511Times().answersAtLast(true, "isSound");
        used511Times().answersAtLast(511, "house", 4);
        used511Times().answersAtLast(5, "put", 3, 0, 1, 2, 3, 4);
        used511Times().answersAtLast("throws " + ARGUMENT.getName(), "put", 3, 0, 1, 2, 3, 24);
        used511Times().digestsAtLast();
    }

    private static Home used511Times() {
        Home home = new Home();
        home.knocksUnasked(511);
        return home;
    }

    private static void numbersWrapAround() {
        // Each is the hash of a text; the last two lie just ahead of the wrap and just behind it.
        Home.of("-0-aAaa\311", "-0-aAbA\351").tells(MAX, "hash", 0);
        Home.of("-0-aAaa\311", "-0-aAbA\351").tells(MIN, "hash", 1);
        Home.of("xBacAA, ", "x07a1\t\t.", "x07a1\t\t0").tells(0, "hash", 0);
        Home.of("xBacAA, ", "x07a1\t\t.", "x07a1\t\t0").tells(-1, "hash", 1);
        Home.of("xBacAA, ", "x07a1\t\t.", "x07a1\t\t0").tells(1, "hash", 2);
        Home.of("C\351\351\351\351\351").tells(2140506182, "hash", 0);
        Home.of("\001,\001\001\001\001\001").tells(-2146826666, "hash", 0);
    }

    private static void noneIsMinus1() {
        Home home = Home.of("abc", "B");
        home.tells(NONE, "first", 0, 5);
        home.tells(NONE, "last", 0, 5);
        home.tells(NONE, "next", 0, 1, 0);
        home.tells(NONE, "firstOf", 0, 1);
        home.tells(NONE, "lastOf", 0, 1);
        home.makes(0, "abcx", "put", 0, NONE, NONE, NONE, NONE, 3);
        home.refuses(ARGUMENT, "put", 0, -2, NONE, NONE, NONE, 3);
    }

    private static final Object[][] REFUSED = {
        {OUT, "put", 4, 0, 0, 0, 0, 0}, {ARGUMENT, "put", 0, 0, 0, 0, 0, 24}, {STATE, "put", 1, 0, 0, -1, -1, -1},
        {OUT, "clear", 4}, {OUT, "copy", 0, 4}, {OUT, "copy", 4, 0},
        {OUT, "part", 0, 2, 1, 3}, {OUT, "part", 0, 1, 2, 4}, {OUT, "part", 0, -1, 2, 0}, {OUT, "part", 0, 0, 5, 0},
        {OUT, "tail", 0, 5, 0}, {OUT, "tail", 0, -1, 3}, {OUT, "tail", 0, 0, 4},
        {OUT, "join", 0, 0, 4}, {OUT, "join", 4, 0, 0}, {STATE, "join", 0, 1, 0}, {STATE, "join", 1, 1, 3},
        {OUT, "times", 0, 2, 4}, {ARGUMENT, "times", 0, 61, 0}, {ARGUMENT, "times", 0, -1, 0}, {STATE, "times", 1, 2, 3},
        {OUT, "trim", 0, true, 4}, {OUT, "trim", 4, false, 0},
        {OUT, "number", 4, 1, true}, {STATE, "number", 1, 10, true}, {STATE, "number", 1, -1, false},
        {OUT, "great", 4, 0, 1}, {STATE, "great", 1, 1, 0}, {OUT, "truth", 4, true, true},
        {STATE, "truth", 1, true, true}, {STATE, "truth", 1, false, false},
        {OUT, "ahead", 4, 0}, {ARGUMENT, "ahead", 0, 24}, {OUT, "known", 4, 0}, {ARGUMENT, "known", 0, 7},
        {STATE, "known", 1, 2}, {OUT, "lay", 4}, {OUT, "set", 3, 0}, {ARGUMENT, "set", 0, 24}, {OUT, "take", 4},
        {OUT, "takePart", 0, 0, 4}, {OUT, "takePart", 0, 3, 1}, {OUT, "takePart", 4, 0, 1}, {OUT, "cut", 4},
        {OUT, "takePiece", 3, 0}, {OUT, "takePiece", 0, 4}, {OUT, "text", 4}, {OUT, "length", 4}, {OUT, "at", 0, 4},
        {OUT, "at", 4, 0}, {OUT, "isEmpty", 4}, {OUT, "isBlank", 4}, {OUT, "hash", 4}, {OUT, "first", 4, 0},
        {ARGUMENT, "first", 0, 24}, {OUT, "last", 4, 0}, {ARGUMENT, "last", 0, 24}, {OUT, "next", 0, 5, 0},
        {ARGUMENT, "next", 0, 0, 24}, {OUT, "begins", 4, 0, true}, {ARGUMENT, "begins", 0, 7, true},
        {OUT, "stands", 4, 0, 0, true}, {ARGUMENT, "stands", 0, 0, 7, true}, {OUT, "firstOf", 0, 4},
        {OUT, "lastOf", 4, 0}, {OUT, "isIn", 0, 4}, {OUT, "isSame", 4, 0, true}, {OUT, "order", 0, 4},
        {OUT, "orderLike", 4, 0}, {OUT, "rowAt", 3}, {OUT, "piece", 3}, {OUT, "isPiece", 3, 0}, {OUT, "isPiece", 0, 4},
        {ARGUMENT, "house", 5},
    };

    private static void refusedCallsChangeNothing() {
        for (Object[] refused : REFUSED) {
            Object[] args = Arrays.copyOfRange(refused, 2, refused.length);
            Home home = Home.of(" a,b", many("a", 59), "", "\001X");
            home.refuses((Class<?>) refused[0], (String) refused[1], args);
            // Nor does what was refused come out of a later call.
            home.makes(3, "\001Xb", "put", 3, 1, -1, -1, -1, -1);
            home.makes(2, "xX ", "take", 2);
            home.makes(2, "b", "takePiece", 0, 2);
            home.knocks();
            home.refuses((Class<?>) refused[0], (String) refused[1], args);
        }
    }

    private static void firstNamedIsThrown() {
        Home home = Home.of(many("a", 60), "ab");
        home.refuses(OUT, "put", 4, 24, 0, 0, 0, 0);
        home.refuses(OUT, "put", -1, 0, 0, 0, 0, -2);
        home.refuses(ARGUMENT, "put", 0, 0, 0, 0, 0, 24);
        home.refuses(ARGUMENT, "put", 0, -2, 0, 0, 0, 0);
        home.refuses(OUT, "join", 0, 0, 4);
        home.refuses(OUT, "join", 0, 4, 0);
        home.refuses(OUT, "times", 4, 61, 0);
        home.refuses(OUT, "times", 0, 61, 4);
        home.refuses(OUT, "times", 0, 2, 4);
        home.refuses(ARGUMENT, "times", 0, 61, 0);
        home.refuses(ARGUMENT, "times", 0, -1, 0);
        home.refuses(OUT, "ahead", 4, 24);
        home.refuses(ARGUMENT, "ahead", 0, 24);
        home.refuses(ARGUMENT, "ahead", 0, -1);
        home.refuses(OUT, "known", 4, 7);
        home.refuses(ARGUMENT, "known", 0, 7);
        home.refuses(ARGUMENT, "known", 0, -1);
        Home other = Home.of("ab");
        other.refuses(OUT, "set", 3, 24);
        other.refuses(OUT, "set", -1, -1);
        other.refuses(OUT, "first", 4, 24);
        other.refuses(OUT, "last", 4, 24);
        other.refuses(OUT, "next", 4, 0, 24);
        other.refuses(OUT, "next", 0, 3, 24);
        other.refuses(OUT, "next", 0, -1, -1);
        other.refuses(OUT, "begins", 4, 7, true);
        other.refuses(OUT, "stands", 4, 0, 7, true);
    }

    // ---- signs, texts

    private static void signsFrom0To23() {
        for (int sign : new int[] {0, 23}) {
            Home.of("b").makes(0, "b" + sign(sign), "put", 0, sign, -1, -1, -1, -1);
            Home.of("b").makes(0, sign(sign) + "b", "ahead", 0, sign);
            Home.of("b").setsRow("x" + sign(sign) + " ", 88, 1, sign);
            Home home = Home.of("b" + sign(sign) + sign(sign));
            home.tells(1, "first", 0, sign);
            home.tells(2, "last", 0, sign);
            home.tells(2, "next", 0, 2, sign);
        }
        for (int sign : new int[] {24, -1, -2, 25, MIN, MAX}) {
            Home home = Home.of("ab");
            if (sign != NONE) {
                home.refuses(ARGUMENT, "put", 0, 0, -1, -1, -1, sign);
            }
            home.refuses(ARGUMENT, "ahead", 0, sign);
            home.refuses(ARGUMENT, "set", 0, sign);
            home.refuses(ARGUMENT, "first", 0, sign);
            home.refuses(ARGUMENT, "last", 0, sign);
            home.refuses(ARGUMENT, "next", 0, 0, sign);
        }
    }

    private static void codesOfSigns() {
        for (int sign = 0; sign < 24; sign++) {
            Home home = Home.of("");
            home.makes(0, String.valueOf((char) CODES[sign]), "put", 0, -1, sign, -1, -1, -1);
            home.tells(CODES[sign], "at", 0, 0);
            home.tells(CODES[sign], "hash", 0);
            home.laysRow(sign(sign), 0);
            home.tells(CODES[sign], "rowAt", 0);
            home.setsRow("a", CODES[sign], 0, 0);
        }
    }

    private static void whiteOnes() {
        for (int sign = 0; sign < 24; sign++) {
            boolean isWhite = WHITE.contains(sign(sign));
            Home home = Home.of(sign(sign), sign(sign) + "a" + sign(sign));
            home.tells(isWhite, "isBlank", 0);
            home.makes(2, isWhite ? "" : sign(sign), "trim", 0, true, 2);
            home.makes(3, isWhite ? "a" : sign(sign) + "a" + sign(sign), "trim", 1, true, 3);
        }
    }

    private static void lowOnes() {
        for (int sign = 0; sign < 24; sign++) {
            boolean isLow = LOW.contains(sign(sign));
            Home home = Home.of(sign(sign), sign(sign) + "a" + sign(sign));
            home.makes(2, isLow ? "" : sign(sign), "trim", 0, false, 2);
            home.makes(3, isLow ? "a" : sign(sign) + "a" + sign(sign), "trim", 1, false, 3);
        }
    }

    private static void sign1IsLowNotWhite() {
        Home home = Home.of("\001", "\001b\001", " \001 ");
        home.tells(false, "isBlank", 0);
        home.tells(false, "isBlank", 2);
        home.makes(3, "\001b\001", "trim", 1, true, 3);
        home.makes(3, "\001", "trim", 2, true, 3);
        home.makes(3, "b", "trim", 1, false, 3);
        home.makes(3, "", "trim", 2, false, 3);
    }

    private static void sign160IsNeither() {
        Home home = Home.of("\240", " \240 ", "\240b\240");
        home.tells(false, "isBlank", 0);
        home.tells(false, "isBlank", 1);
        home.makes(3, "\240", "trim", 1, false, 3);
        home.makes(3, "\240", "trim", 1, true, 3);
        home.makes(3, "\240b\240", "trim", 2, false, 3);
        home.makes(3, "\240b\240", "trim", 2, true, 3);
    }

    private static void capitals() {
        for (int one = 0; one < 24; one++) {
            for (int other = 0; other < 24; other++) {
                Home home = Home.of(sign(one), sign(other));
                home.tells(one == other, "isSame", 0, 1, false);
                home.tells(littleOf(one) == littleOf(other), "isSame", 0, 1, true);
                home.tells(Integer.signum(CODES[littleOf(one)] - CODES[littleOf(other)]), "orderLike", 0, 1);
            }
            Home.of(sign(one)).tells(one == 0 || one == 4, "stands", 0, 0, 1, true);
            Home.of(sign(one)).tells(one == 0 || one == 4, "stands", 0, 0, 3, true);
        }
    }

    private static int littleOf(int sign) {
        return sign >= 4 && sign <= 7 ? sign - 4 : sign == 23 ? 22 : sign;
    }

    private static void texts0To3() {
        Home home = Home.of("a", "bb", "ccc", "xxxx");
        home.tells(1, "length", 0);
        home.tells(2, "length", 1);
        home.tells(3, "length", 2);
        home.tells(4, "length", 3);
        for (int text : new int[] {-1, 4, 5, MIN, MAX}) {
            home.refuses(OUT, "length", text);
            home.refuses(OUT, "clear", text);
            home.refuses(OUT, "put", text, -1, -1, -1, -1, -1);
        }
        home.makes(3, "xxxxa", "join", 3, 0, 3);
        home.makes(0, "axxxxa", "join", 0, 3, 0);
    }

    private static void upTo60Each() {
        Home home = new Home();
        for (int text = 0; text < 4; text++) {
            home.tells(0, "length", text);
            home.makes(text, "1", "put", text, 9, -1, -1, -1, -1);
            home.makes(text, many("1", 60), "times", text, 60, text);
        }
        for (int text = 0; text < 4; text++) {
            home.tells(60, "length", text);
            home.tells(49, "at", text, 59);
            home.refuses(OUT, "at", text, 60);
            home.refuses(STATE, "put", text, -1, -1, 9, -1, -1);
        }
    }

    private static void placesFrom0On() {
        for (String signs : new String[] {"a", "ab", many("c", 59) + "X"}) {
            Home home = Home.ofRow(signs, signs);
            int last = signs.length() - 1;
            home.tells((int) signs.charAt(0), "at", 0, 0);
            home.tells((int) signs.charAt(last), "at", 0, last);
            home.refuses(OUT, "at", 0, -1);
            home.refuses(OUT, "at", 0, last + 1);
            home.tells((int) signs.charAt(0), "rowAt", 0);
            home.tells((int) signs.charAt(last), "rowAt", last);
            home.refuses(OUT, "rowAt", -1);
            home.refuses(OUT, "rowAt", last + 1);
            home.makes(1, "", "part", 0, 0, 0, 1);
            home.makes(1, "", "tail", 0, last + 1, 1);
        }
    }

    private static void longerThan60IsRefused() {
        String[] full = {many("a", 60), many("a", 59), many("a", 58), "b"};
        Home inside = Home.of(full);
        inside.makes(0, many("a", 60), "put", 0, -1, -1, -1, -1, -1);
        inside.makes(1, many("a", 59) + "b", "put", 1, 1, -1, -1, -1, -1);
        inside.makes(2, many("a", 58) + "bc", "put", 2, -1, 1, -1, -1, 2);
        inside.makes(3, many("b", 60), "times", 3, 60, 3);
        Home.of(full).makes(1, "b" + many("a", 59), "ahead", 1, 1);
        Home.of(full).makes(1, many("a", 59) + "0", "number", 1, 0, false);
        Home.of(full).makes(2, "-1" + many("a", 58), "number", 2, -1, true);
        Home.of(full).makes(2, many("a", 58) + "-1", "great", 2, -1, -1);
        Home.of(full).makes(0, many("a", 59) + "b", "join", 1, 3, 0);
        Home.of(full).makes(2, many("a", 58) + "ab", "known", 2, 2);
        Home.of(many("a", 56)).makes(0, many("a", 56) + "true", "truth", 0, true, false);
        Home beyond = Home.of(full);
        beyond.refuses(STATE, "put", 0, -1, -1, 1, -1, -1);
        beyond.refuses(STATE, "put", 1, 1, -1, 1, -1, -1);
        beyond.refuses(STATE, "put", 2, 1, 1, 1, -1, -1);
        beyond.refuses(STATE, "times", 0, 2, 3);
        beyond.refuses(STATE, "ahead", 0, 1);
        beyond.refuses(STATE, "number", 1, 10, true);
        beyond.refuses(STATE, "number", 1, -1, false);
        beyond.refuses(STATE, "great", 2, -1, 0);
        beyond.refuses(STATE, "join", 0, 3, 1);
        beyond.refuses(STATE, "join", 1, 2, 3);
        beyond.refuses(STATE, "known", 1, 2);
        beyond.refuses(STATE, "known", 2, 5);
        Home.of(many("a", 57)).refuses(STATE, "truth", 0, true, true);
        Home.of(many("a", 56)).refuses(STATE, "truth", 0, false, false);
    }

    private static void rowAtFirstAndItsPlaces() {
        Home home = new Home();
        home.tells("", "row");
        home.tells(0, "house", 0);
        home.refuses(OUT, "rowAt", 0);
        home.refuses(OUT, "set", 0, 0);
        home.makes(0, "abc", "put", 0, 0, 1, 2, -1, -1);
        home.refuses(OUT, "rowAt", 0);
        home.laysRow("abc", 0);
        home.setsRow("Abc", 97, 0, 4);
        home.setsRow("AbC", 99, 2, 6);
        home.refuses(OUT, "set", 3, 0);
        home.refuses(OUT, "set", -1, 0);
        home.setsRow("abC", 65, 0, 0);
    }

    private static void piecesMadeLast() {
        Home home = new Home();
        home.tells(0, "house", 1);
        home.refuses(OUT, "piece", 0);
        home.makes(0, "a,b,c", "put", 0, 0, 12, 1, 12, 2);
        home.refuses(OUT, "piece", 0);
        home.cuts(0, "a", "b", "c");
        home.clears(0);
        home.tells("c", "piece", 2);
        home.refuses(OUT, "piece", 3);
        home.cuts(0, "");
        home.tells("", "piece", 0);
        home.refuses(OUT, "piece", 1);
        home.makes(1, ",", "put", 1, 12, -1, -1, -1, -1);
        home.cuts(1);
        home.refuses(OUT, "piece", 0);
    }

    private static void minusAheadBelow0() {
        Home home = new Home();
        home.makes(0, "-1", "number", 0, -1, false);
        home.makes(1, "0", "number", 1, 0, false);
        home.makes(2, "1", "number", 2, 1, false);
        home.makes(3, "-2147483648", "number", 3, MIN, false);
        Home great = new Home();
        great.makes(0, "-1", "great", 0, -1, -1);
        great.makes(1, "0", "great", 1, 0, 0);
        great.makes(2, "1", "great", 2, 0, 1);
        great.makes(3, "-9223372036854775808", "great", 3, MIN, 0);
    }

    private static void digitsWithoutNeedless0() {
        Home zero = new Home();
        zero.makes(0, "0", "number", 0, 0, true);
        zero.makes(1, "0", "great", 1, 0, 0);
        int ten = 10;
        for (int digits = 1; digits <= 9; digits++) {
            for (int number : new int[] {ten - 1, ten, ten + 1, -(ten - 1), -ten, -(ten + 1)}) {
                new Home().makes(1, Integer.toString(number), "number", 1, number, true);
                new Home().makes(2, Integer.toString(number), "number", 2, number, false);
            }
            ten *= 10;
        }
        long great = 10;
        for (int digits = 1; digits <= 18; digits++) {
            for (long number : new long[] {great - 1, great, great + 1, -(great - 1), -great, -(great + 1)}) {
                new Home().makes(3, Long.toString(number), "great", 3, (int) (number >> 32), (int) number);
            }
            great *= 10;
        }
    }

    private static void truthTexts() {
        Home home = Home.of("b", "", "x");
        home.makes(0, "btrue", "truth", 0, true, false);
        home.makes(1, "false", "truth", 1, false, true);
        home.makes(2, "truex", "truth", 2, true, true);
        home.makes(2, "truexfalse", "truth", 2, false, false);
    }

    private static void lettersWithoutNumber() {
        Home home = new Home();
        home.makes(0, "true", "truth", 0, true, false);
        home.makes(1, "false", "truth", 1, false, false);
        home.makes(2, "23456", "number", 2, 23456, false);
        home.makes(2, "2345678", "number", 2, 78, false);
        int[] codes = {116, 114, 117, 101};
        for (int place = 0; place < 4; place++) {
            home.tells(codes[place], "at", 0, place);
        }
        int[] others = {102, 97, 108, 115, 101};
        for (int place = 0; place < 5; place++) {
            home.tells(others[place], "at", 1, place);
        }
        for (int place = 0; place < 7; place++) {
            home.tells(50 + place, "at", 2, place);
        }
        home.makes(3, "true", "trim", 0, false, 3);
        home.makes(3, "false", "trim", 1, true, 3);
        home.makes(3, "2345678", "trim", 2, false, 3);
        lettersAreNoCapitals();
    }

    private static void lettersAreNoCapitals() {
        String all = "truefalse2345678";
        for (int place = 0; place < all.length(); place++) {
            if (SIGNS.indexOf(all.charAt(place)) < 0) {
                letterIsNoCapital(all, place);
            }
        }
    }

    private static void letterIsNoCapital(String all, int place) {
        for (int sign = 0; sign < 24; sign++) {
            Home home = Home.of("", sign(sign));
            home.makes(0, "true", "truth", 0, true, false);
            home.makes(0, "truefalse", "truth", 0, false, false);
            home.makes(0, all, "number", 0, 2345678, false);
            home.makes(0, all.substring(place, place + 1), "part", 0, place, place + 1, 0);
            home.tells(false, "isSame", 0, 1, true);
            home.tells(Integer.signum(all.charAt(place) - CODES[littleOf(sign)]), "orderLike", 0, 1);
        }
    }

    // ---- looks

    private static void sameIfAsLongAndSameAtEachPlace() {
        String whole = many("ab", 30);
        Home home = Home.of(whole, many("ab", 29) + "aa", "b" + whole.substring(1), whole.substring(1));
        home.tells(true, "isSame", 0, 0, false);
        home.tells(false, "isSame", 0, 1, false);
        home.tells(false, "isSame", 0, 2, false);
        home.tells(false, "isSame", 0, 3, false);
        home.tells(false, "isSame", 3, 0, false);
        home.makes(3, whole, "copy", 0, 3);
        home.tells(true, "isSame", 0, 3, false);
        home.tells(true, "isSame", 3, 0, false);
        Home small = Home.of("", "a", "aa", "A");
        small.tells(true, "isSame", 0, 0, false);
        small.tells(false, "isSame", 0, 1, false);
        small.tells(false, "isSame", 1, 0, false);
        small.tells(false, "isSame", 1, 2, false);
        small.tells(false, "isSame", 2, 1, false);
        small.tells(false, "isSame", 1, 3, false);
    }

    private static void likeWithoutCapitals() {
        Home home = Home.of("abcx\351", "ABCX\311", "aBcX\351", "ABCX");
        home.tells(true, "isSame", 0, 1, true);
        home.tells(true, "isSame", 1, 0, true);
        home.tells(true, "isSame", 2, 1, true);
        home.tells(false, "isSame", 0, 1, false);
        home.tells(false, "isSame", 1, 3, true);
        home.tells(false, "isSame", 3, 1, true);
        Home.of("", "A").tells(true, "isSame", 0, 0, true);
        Home.of("", "A").tells(false, "isSame", 0, 1, true);
        // The sign that is 32 above one or below one is not for that the same.
        Home.of("-", "\001", " ", "A").tells(false, "isSame", 2, 3, true);
        Home.of("\311", "\240").tells(false, "isSame", 0, 1, true);
    }

    private static void hashIs0First() {
        Home home = Home.of("", "\001", "a");
        home.tells(0, "hash", 0);
        home.tells(1, "hash", 1);
        home.tells(97, "hash", 2);
        home.clears(2);
        home.tells(0, "hash", 2);
    }

    private static void hashFromFirstSignOn() {
        Home home = Home.of("ab", "ba", "\001\001\001", many("X\351", 30));
        home.tells(97 * 31 + 98, "hash", 0);
        home.tells(98 * 31 + 97, "hash", 1);
        home.tells(31 * 31 + 31 + 1, "hash", 2);
        home.tells(many("X\351", 30).hashCode(), "hash", 3);
    }

    private static void orderAtFirstPlaceNotSame() {
        Home home = Home.of("ab", "aB", "aBcx", "\351");
        home.tells(32, "order", 0, 1);
        home.tells(-32, "order", 1, 0);
        home.tells(32, "order", 0, 2);
        home.tells(-32, "order", 2, 0);
        home.tells(97 - 233, "order", 0, 3);
        home.tells(233 - 97, "order", 3, 0);
        Home ends = Home.of("\001", "\351", many("a", 59) + "b", many("a", 59) + "A");
        ends.tells(1 - 233, "order", 0, 1);
        ends.tells(233 - 1, "order", 1, 0);
        ends.tells(33, "order", 2, 3);
        ends.tells(-33, "order", 3, 2);
        // Only the first of those places counts.
        Home first = Home.of("ax", "ba");
        first.tells(-1, "order", 0, 1);
        first.tells(1, "order", 1, 0);
    }

    private static void orderByHowLong() {
        Home home = Home.of("", "a", "ab", many("a", 60));
        home.tells(0, "order", 0, 0);
        home.tells(0, "order", 3, 3);
        home.tells(-1, "order", 0, 1);
        home.tells(1, "order", 1, 0);
        home.tells(-1, "order", 1, 2);
        home.tells(-60, "order", 0, 3);
        home.tells(60, "order", 3, 0);
        home.tells(-59, "order", 1, 3);
        home.tells(59, "order", 3, 1);
    }

    private static void orderWithoutCapitals() {
        Home home = Home.of("AB", "ab", "abc", "_");
        home.tells(0, "orderLike", 0, 1);
        home.tells(0, "orderLike", 1, 0);
        home.tells(-1, "orderLike", 0, 2);
        home.tells(1, "orderLike", 2, 0);
        // "_" stands behind "A" and ahead of "a".
        home.tells(-1, "orderLike", 3, 0);
        home.tells(1, "orderLike", 0, 3);
        Home far = Home.of("\001", "\311", "", many("X", 60));
        far.tells(-1, "orderLike", 0, 1);
        far.tells(1, "orderLike", 1, 0);
        far.tells(-1, "orderLike", 2, 3);
        far.tells(1, "orderLike", 3, 2);
        far.tells(0, "orderLike", 2, 2);
        far.tells(1, "orderLike", 3, 0);
    }

    private static void standsIfSignsAreThere() {
        Home home = Home.of("xab", "ab", "abx", "xabx");
        home.tells(1, "firstOf", 0, 1);
        home.tells(0, "firstOf", 2, 1);
        home.tells(true, "stands", 0, 1, 2, false);
        home.tells(false, "stands", 0, 0, 2, false);
        // There are not so many at the last place.
        home.tells(false, "stands", 0, 2, 2, false);
        home.tells(true, "stands", 2, 0, 2, false);
        home.tells(NONE, "firstOf", 1, 0);
        home.tells(NONE, "firstOf", 0, 2);
        home.tells(NONE, "lastOf", 2, 0);
        home.tells(false, "isIn", 0, 3);
        home.tells(true, "isIn", 3, 0);
        home.tells(true, "isIn", 3, 2);
        home.tells(false, "begins", 0, 2, false);
        home.tells(true, "begins", 0, 2, true);
        Home ends = Home.of("xa", "ab", "a");
        ends.tells(false, "stands", 0, 1, 2, false);
        ends.tells(false, "stands", 0, 1, 2, true);
        ends.tells(true, "stands", 0, 1, 1, false);
        ends.tells(NONE, "firstOf", 0, 1);
        ends.tells(NONE, "lastOf", 0, 1);
        ends.tells(false, "isIn", 0, 1);
        ends.tells(1, "lastOf", 0, 2);
        ends.tells(false, "begins", 0, 2, true);
        ends.tells(false, "begins", 2, 2, false);
    }

    private static void emptyTextStandsEverywhere() {
        for (String signs : new String[] {"", "a", "aaa", many("b", 60)}) {
            int end = signs.length();
            Home home = Home.of(signs);
            for (int place : new int[] {0, end / 2, end}) {
                home.tells(true, "stands", 0, place, 0, false);
                home.tells(true, "stands", 0, place, 0, true);
            }
            for (int place : new int[] {-1, end + 1, MIN, MAX}) {
                home.tells(false, "stands", 0, place, 0, false);
                home.tells(false, "stands", 0, place, 0, true);
            }
            home.tells(0, "firstOf", 0, 1);
            home.tells(end, "lastOf", 0, 1);
            home.tells(true, "isIn", 0, 1);
            home.tells(true, "begins", 0, 0, false);
            home.tells(true, "begins", 0, 0, true);
        }
    }

    private static void firstAndLastPlace() {
        Home home = Home.of("ababa", "aba", "b", "c");
        home.tells(0, "firstOf", 0, 1);
        home.tells(2, "lastOf", 0, 1);
        home.tells(1, "firstOf", 0, 2);
        home.tells(3, "lastOf", 0, 2);
        home.tells(NONE, "firstOf", 0, 3);
        home.tells(NONE, "lastOf", 0, 3);
        Home ends = Home.of("b" + many("a", 58) + "b", "b", many("a", 58), "a");
        ends.tells(0, "firstOf", 0, 1);
        ends.tells(59, "lastOf", 0, 1);
        ends.tells(1, "firstOf", 0, 2);
        ends.tells(1, "lastOf", 0, 2);
        ends.tells(1, "firstOf", 0, 3);
        ends.tells(58, "lastOf", 0, 3);
        ends.tells(57, "lastOf", 2, 3);
    }

    private static void trimmed() {
        Home home = Home.of(LOW + "a" + LOW + "b" + LOW, LOW, "ab", "\001");
        home.makes(3, "", "trim", 3, false, 3);
        home.makes(3, "a" + LOW + "b", "trim", 0, false, 3);
        home.makes(3, "a" + LOW + "b", "trim", 3, false, 3);
        home.makes(3, "", "trim", 1, false, 3);
        home.makes(3, "", "trim", 3, false, 3);
        home.makes(3, "ab", "trim", 2, false, 3);
        Home full = Home.of(many(" ", 59) + "a", "a" + many("\001", 59), many("\n", 60));
        full.makes(3, "a", "trim", 0, false, 3);
        full.makes(3, "a", "trim", 1, false, 3);
        full.makes(3, "", "trim", 2, false, 3);
    }

    private static void stripped() {
        Home home = Home.of(WHITE + "a" + WHITE + "b" + WHITE, WHITE, "\001" + WHITE + "\001", " \001");
        home.makes(3, "\001", "trim", 3, true, 3);
        home.makes(3, "\001" + WHITE + "\001", "trim", 2, true, 3);
        home.makes(3, "a" + WHITE + "b", "trim", 0, true, 3);
        home.makes(3, "a" + WHITE + "b", "trim", 3, true, 3);
        home.makes(3, "", "trim", 1, true, 3);
        home.makes(3, "", "trim", 3, true, 3);
        Home full = Home.of(many(" ", 59) + "a", "a" + many("\034", 59), many("\t", 60));
        full.makes(3, "a", "trim", 0, true, 3);
        full.makes(3, "a", "trim", 1, true, 3);
        full.makes(3, "", "trim", 2, true, 3);
    }

    private static void blankIfAllWhite() {
        Home home = Home.of("", WHITE, WHITE + "\001", "a" + WHITE);
        home.tells(true, "isBlank", 0);
        home.tells(true, "isBlank", 1);
        home.tells(false, "isBlank", 2);
        home.tells(false, "isBlank", 3);
        Home full = Home.of(many(" ", 60), many(" ", 59) + "a", "a" + many(" ", 59), many(" ", 59) + "\240");
        full.tells(true, "isBlank", 0);
        full.tells(false, "isBlank", 1);
        full.tells(false, "isBlank", 2);
        full.tells(false, "isBlank", 3);
    }

    private static void piecesBetweenCommas() {
        Home home = Home.of("a,b", "ab,cx,AB", ",a", ",,a");
        home.cuts(0, "a", "b");
        home.cuts(1, "ab", "cx", "AB");
        home.cuts(2, "", "a");
        home.cuts(3, "", "", "a");
        Home full = Home.of(many("a", 58) + ",b", "b," + many("a", 58), many(",", 59) + "a");
        full.cuts(0, many("a", 58), "b");
        full.cuts(1, "b", many("a", 58));
        full.cuts(2, (many(",", 59) + "a").split(","));
    }

    private static void emptyPiecesAtTheEndGo() {
        Home home = Home.of("a,", "a,,", ",,", "a,,b,,,");
        home.cuts(0, "a");
        home.cuts(1, "a");
        home.cuts(2);
        home.cuts(3, "a", "", "b");
        Home full = Home.of(many(",", 60), "a" + many(",", 59), many(",", 58) + "a,", " ,");
        full.cuts(0);
        full.cuts(1, "a");
        full.cuts(3, " ");
        full.cuts(2, (many(",", 58) + "a").split(","));
    }

    private static void textWithoutComma() {
        Home home = Home.of("", "a", many("a", 60), " ");
        home.cuts(0, "");
        home.cuts(1, "a");
        home.cuts(2, many("a", 60));
        home.cuts(3, " ");
        home.cuts(0, "");
    }

    private static void soCommaHasNoPieces() {
        Home home = Home.of(",", ",a,,b,,");
        home.cuts(0);
        home.refuses(OUT, "piece", 0);
        home.cuts(1, "", "a", "", "b");
        home.refuses(OUT, "piece", 4);
    }

    private static void knownTexts() {
        for (int known = 0; known < 7; known++) {
            Home home = Home.of("", "b" + KNOWN[known] + "b");
            home.makes(0, KNOWN[known], "known", 0, known);
            home.tells(true, "begins", 0, known, false);
            home.tells(true, "stands", 1, 1, known, false);
            home.makes(0, KNOWN[known] + KNOWN[known], "known", 0, known);
        }
        for (int known : new int[] {-1, 7, MIN, MAX}) {
            Home home = Home.of("a");
            home.refuses(ARGUMENT, "known", 0, known);
            home.refuses(ARGUMENT, "begins", 0, known, false);
            home.refuses(ARGUMENT, "stands", 0, 0, known, false);
        }
    }

    private static void ofAllCalls(Sentences sentences) {
        sentences.chapter("What it is");
        sentences.test("An object is used for at most 512 calls", WordsBoundariesTest::at512Calls);
        sentences.chapter("Description");
        sentences.test("Whole numbers, as in 32 digits of two (they wrap around).", WordsBoundariesTest::numbersWrapAround);
        sentences.test("NONE is -1.", WordsBoundariesTest::noneIsMinus1);
        sentences.test("A method that throws an exception changes nothing.", WordsBoundariesTest::refusedCallsChangeNothing);
        sentences.test("If several exceptions apply, the one that is named first is thrown.",
            WordsBoundariesTest::firstNamedIsThrown);
    }

    private static void ofSigns(Sentences sentences) {
        sentences.chapter("1. Signs, texts");
        sentences.test("SIGNS are numbered from 0 to 23", WordsBoundariesTest::signsFrom0To23);
        sentences.test("CODE is the number of each", WordsBoundariesTest::codesOfSigns);
        sentences.test("WHITE are the blank, the tab, the new line and the sign 28", WordsBoundariesTest::whiteOnes);
        sentences.test("LOW are all whose CODE is 32 or less", WordsBoundariesTest::lowOnes);
        sentences.test("so the sign 1 is LOW, but not WHITE", WordsBoundariesTest::sign1IsLowNotWhite);
        sentences.test("The sign 160 is neither.", WordsBoundariesTest::sign160IsNeither);
        sentences.test("CAPITALS are 4 to 7 and 23", WordsBoundariesTest::capitals);
        sentences.test("TEXTS 0 to 3", WordsBoundariesTest::texts0To3);
        sentences.test("up to 60 each (without any at first)", WordsBoundariesTest::upTo60Each);
        sentences.test("places are numbered from 0 on", WordsBoundariesTest::placesFrom0On);
        sentences.test("What would be longer than 60 is refused.", WordsBoundariesTest::longerThan60IsRefused);
        sentences.test("The ROW is a row of SIGNS, too (without any at first), of which single places can be changed.",
            WordsBoundariesTest::rowAtFirstAndItsPlaces);
        sentences.test("PIECES are a row of TEXTS that was made last (none at first).", WordsBoundariesTest::piecesMadeLast);
        sentences.test("\"-\" ahead of one below 0", WordsBoundariesTest::minusAheadBelow0);
        sentences.test("then its digits by tens without a needless 0", WordsBoundariesTest::digitsWithoutNeedless0);
        sentences.test("of a truth \"true\" or \"false\"", WordsBoundariesTest::truthTexts);
        sentences.test("each is neither LOW nor a CAPITAL", WordsBoundariesTest::lettersWithoutNumber);
    }

    private static void ofLooks(Sentences sentences) {
        sentences.chapter("2. Looks");
        sentences.test("Two texts are the SAME, if they are as long, and have the same SIGN at each place.",
            WordsBoundariesTest::sameIfAsLongAndSameAtEachPlace);
        sentences.test("LIKE: so without CAPITALS.", WordsBoundariesTest::likeWithoutCapitals);
        sentences.test("a number is 0 first", WordsBoundariesTest::hashIs0First);
        sentences.test("for each SIGN, from the first one on, it becomes 31 times itself and its CODE",
            WordsBoundariesTest::hashFromFirstSignOn);
        sentences.test("at the first place at which both have SIGNS that are not the same",
            WordsBoundariesTest::orderAtFirstPlaceNotSame);
        sentences.test("if there is no such place, how many SIGNS the first one has less how many the second one has",
            WordsBoundariesTest::orderByHowLong);
        sentences.test("ORDER without CAPITALS", WordsBoundariesTest::orderWithoutCapitals);
        sentences.test("if the SIGNS from there on are its SIGNS, and there are so many",
            WordsBoundariesTest::standsIfSignsAreThere);
        sentences.test("the empty text stands at each place from 0 up to the end",
            WordsBoundariesTest::emptyTextStandsEverywhere);
        sentences.test("Its FIRST place is the smallest at which it STANDS, its LAST place the greatest; NONE without one.",
            WordsBoundariesTest::firstAndLastPlace);
        sentences.test("TRIMMED: all LOW SIGNS at the beginning and at the end go", WordsBoundariesTest::trimmed);
        sentences.test("STRIPPED: likewise WHITE ones.", WordsBoundariesTest::stripped);
        sentences.test("BLANK is a text whose SIGNS are all WHITE (also the empty one).",
            WordsBoundariesTest::blankIfAllWhite);
        sentences.test("what is ahead of its first comma, then what is between each two commas side by side",
            WordsBoundariesTest::piecesBetweenCommas);
        sentences.test("empty PIECES at the end go, one after the other", WordsBoundariesTest::emptyPiecesAtTheEndGo);
        sentences.test("a text without a comma is its one PIECE, also if it is empty",
            WordsBoundariesTest::textWithoutComma);
        sentences.test("So \",\" has no PIECES", WordsBoundariesTest::soCommaHasNoPieces);
        sentences.test("KNOWN texts: 0 \"\" (empty)", WordsBoundariesTest::knownTexts);
    }

    public static void main(String[] args) throws IOException {
        Sentences sentences = new Sentences();
        ofAllCalls(sentences);
        ofSigns(sentences);
        ofLooks(sentences);
        sentences.runAll();
    }
}
