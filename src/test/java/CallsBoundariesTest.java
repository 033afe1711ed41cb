import java.io.IOException;

/**
 * What each promise of the document says of its call: a test for each sentence that names a boundary, just inside it
 * and just beyond it, for the answer and for all that stands after the call.
 */
public final class CallsBoundariesTest {
    private static final Class<?> OUT = Home.OUT;
    private static final Class<?> ARGUMENT = Home.ARGUMENT;
    private static final Class<?> STATE = Home.STATE;
    private static final int MIN = Home.MIN;
    private static final int MAX = Home.MAX;
    private static final int NONE = -1;
    private static final String A57 = "a".repeat(57);
    private static final String A58 = "a".repeat(58);
    private static final String A59 = "a".repeat(59);
    private static final String A60 = "a".repeat(60);
    private static final int[] NO_TEXT = {-1, 4, 5, MIN, MAX};
    private static final int[] NO_SIGN = {-1, 24, 25, MIN, MAX};
    private static final int[] NO_KNOWN = {-1, 7, 8, MIN, MAX};
    private static final String[] KNOWN = {"", "a", "ab", "A", ",", "x.x", "aB-1"};

    private static String many(String part, int times) {
        return part.repeat(times);
    }

    /** Refuses each of these numbers in place of that argument. */
    private static void refusesEach(Class<?> kind, int[] numbers, int at, String name, Object... args) {
        for (int number : numbers) {
            Object[] changed = args.clone();
            changed[at] = number;
            Home.of("ab", "a,x", "", " A").refuses(kind, name, changed);
        }
    }

    private static void refusesNoText(int at, String name, Object... args) {
        refusesEach(OUT, NO_TEXT, at, name, args);
    }

    // ---- 1: a new object

    private static void newOne() {
        Home used = Home.of("abc", A60);
        Home home = new Home();
        for (int text = 0; text < 4; text++) {
            home.tells("", "text", text);
            home.tells(0, "length", text);
            home.refuses(OUT, "at", text, 0);
        }
        home.tells(4, "house", 3);
        home.refuses(OUT, "rowAt", 0);
        home.refuses(OUT, "piece", 0);
        home.makes(0, "a", "put", 0, 0, -1, -1, -1, -1);
        used.tells("abc", "text", 0);
        new Home().tells("", "text", 0);
    }

    // ---- 2: put

    private static void putBehind() {
        Home home = Home.of("", "x");
        home.makes(0, "abcxA", "put", 0, 0, 1, 2, 3, 4);
        home.makes(0, "abcxABCX01", "put", 0, 5, 6, 7, 8, 9);
        home.makes(1, "xa", "put", 1, 0, -1, -1, -1, -1);
        home.makes(3, "ba", "put", 3, 1, -1, -1, -1, 0);
    }

    private static void putAt(int argument) {
        Object[] args = {0, -1, -1, -1, -1, -1};
        Home home = Home.of("b");
        home.makes(0, "b", "put", args);
        home.makes(0, "ba", "put", with(args, argument, 0));
        home.makes(0, "ba\311", "put", with(args, argument, 23));
        home.refuses(ARGUMENT, "put", with(args, argument, 24));
        home.refuses(ARGUMENT, "put", with(args, argument, -2));
        home.makes(0, "ba\311", "put", args);
        Object[] others = {0, 0, 0, 0, 0, 0};
        home.makes(0, "ba\311aaaa", "put", with(others, argument, NONE));
        home.refuses(ARGUMENT, "put", with(others, argument, 24));
        home.refuses(ARGUMENT, "put", with(others, argument, -2));
    }

    private static Object[] with(Object[] args, int at, int number) {
        Object[] changed = args.clone();
        changed[at] = number;
        return changed;
    }

    private static void putTellsHowLong() {
        Home home = Home.of("", A59, A60);
        home.makes(0, "", "put", 0, -1, -1, -1, -1, -1);
        home.makes(0, "a", "put", 0, -1, -1, 0, -1, -1);
        home.makes(0, "abbbbb", "put", 0, 1, 1, 1, 1, 1);
        home.makes(1, A60, "put", 1, -1, -1, 0, -1, -1);
        home.makes(2, A60, "put", 2, -1, -1, -1, -1, -1);
    }

    private static void putNoText() {
        Home home = Home.of("a", "", "", "b");
        home.makes(0, "ab", "put", 0, 1, -1, -1, -1, -1);
        home.makes(3, "bb", "put", 3, 1, -1, -1, -1, -1);
        refusesNoText(0, "put", 0, 1, -1, -1, -1, -1);
        refusesNoText(0, "put", 0, -1, -1, -1, -1, -1);
    }

    private static void putNoSign() {
        for (int sign = NONE; sign <= 23; sign++) {
            String added = sign == NONE ? "" : Home.SIGNS.substring(sign, sign + 1);
            Home.of("b").makes(0, "b" + added, "put", 0, -1, -1, sign, -1, -1);
        }
        for (int argument = 1; argument <= 5; argument++) {
            refusesEach(ARGUMENT, new int[] {-2, -3, 24, 25, MIN, MAX}, argument, "put", 0, 0, 1, -1, 2, 3);
            refusesEach(ARGUMENT, new int[] {-2, 24}, argument, "put", 3, -1, -1, -1, -1, -1);
        }
        Home full = Home.of(A60);
        full.refuses(ARGUMENT, "put", 0, 0, 0, 0, 0, 24);
        full.refuses(ARGUMENT, "put", 0, -1, -1, -2, -1, -1);
    }

    private static void putTooLong() {
        for (int signs = 0; signs <= 5; signs++) {
            Object[] args = {0, signs > 0 ? 1 : -1, signs > 4 ? 1 : -1, signs > 1 ? 1 : -1,
                signs > 2 ? 1 : -1, signs > 3 ? 1 : -1};
            Home home = Home.of(many("a", 60 - signs), "", "", many("a", 61 - Math.max(signs, 1)));
            home.makes(0, many("a", 60 - signs) + many("b", signs), "put", args);
            if (signs > 0) {
                home.refuses(STATE, "put", 3, args[1], args[2], args[3], args[4], args[5]);
                home.makes(3, many("a", 61 - signs), "put", 3, -1, -1, -1, -1, -1);
                home.refuses(STATE, "put", 0, -1, -1, -1, -1, 1);
            }
        }
    }

    // ---- 3: clear

    private static void clearEmpties() {
        Home home = Home.of("a", A60, "ab", "");
        home.clears(0);
        home.tells(true, "isEmpty", 0);
        home.refuses(OUT, "at", 0, 0);
        home.clears(1);
        home.makes(1, "b", "put", 1, 1, -1, -1, -1, -1);
        home.clears(3);
    }

    private static void clearTellsHowLongItWas() {
        Home home = Home.of("", "a", A59, A60);
        for (int text = 0; text < 4; text++) {
            home.clears(text);
            home.clears(text);
        }
    }

    private static void clearNoText() {
        Home home = Home.of("a", "ab", "abc", "b");
        home.clears(0);
        home.clears(3);
        refusesNoText(0, "clear", 0);
    }

    // ---- 4: copy

    private static void copyBecomes() {
        Home home = Home.of("", "a", A60, "abc");
        home.makes(3, "a", "copy", 1, 3);
        home.makes(3, A60, "copy", 2, 3);
        home.makes(2, "", "copy", 0, 2);
        home.makes(3, A60, "copy", 3, 3);
        home.makes(0, "", "copy", 0, 0);
        // The one that was taken and the one that became it go on apart.
        home.makes(0, "a", "copy", 1, 0);
        home.makes(0, "ab", "put", 0, 1, -1, -1, -1, -1);
        home.clears(1);
    }

    private static void copyTellsHowLong() {
        Home home = Home.of("", "a", A59, A60);
        home.makes(0, A60, "copy", 3, 0);
        home.makes(0, A59, "copy", 2, 0);
        home.makes(0, "a", "copy", 1, 0);
        home.clears(1);
        home.makes(0, "", "copy", 1, 0);
    }

    private static void copyNoText() {
        Home home = Home.of("a", "", "", "b");
        home.makes(3, "a", "copy", 0, 3);
        home.makes(0, "a", "copy", 3, 0);
        refusesNoText(0, "copy", 0, 1);
        refusesNoText(1, "copy", 0, 1);
        refusesNoText(0, "copy", 0, 4);
    }

    // ---- 5: part

    private static void partBehindLast() {
        Home home = Home.of("abcx", A59 + "b");
        home.makes(2, "a", "part", 0, 0, 1, 2);
        home.makes(2, "abcx", "part", 0, 0, 4, 2);
        home.makes(2, "x", "part", 0, 3, 4, 2);
        home.makes(2, "bc", "part", 0, 1, 3, 2);
        home.makes(2, A59 + "b", "part", 1, 0, 60, 2);
        home.makes(2, "b", "part", 1, 59, 60, 2);
        home.makes(2, A59, "part", 1, 0, 59, 2);
        home.makes(1, "ab", "part", 1, 58, 60, 1);
    }

    private static void partTellsHowLong() {
        Home home = Home.of("abcx", A60);
        home.makes(2, "", "part", 0, 2, 2, 2);
        home.makes(2, "c", "part", 0, 2, 3, 2);
        home.makes(2, A60, "part", 1, 0, 60, 2);
        home.makes(2, A59, "part", 1, 1, 60, 2);
    }

    private static void partNoText() {
        Home home = Home.of("ab", "", "", "cx");
        home.makes(3, "b", "part", 0, 1, 2, 3);
        home.makes(0, "b", "part", 3, 0, 1, 0);
        refusesNoText(0, "part", 0, 0, 0, 1);
        refusesNoText(3, "part", 0, 0, 1, 1);
    }

    private static void partFromBelow0() {
        Home home = Home.of("abc", "", A60);
        home.makes(3, "a", "part", 0, 0, 1, 3);
        home.makes(3, "", "part", 1, 0, 0, 3);
        home.refuses(OUT, "part", 0, -1, 1, 3);
        home.refuses(OUT, "part", 0, -1, -1, 3);
        home.refuses(OUT, "part", 0, -2, -1, 0);
        home.refuses(OUT, "part", 1, -1, 0, 3);
        home.refuses(OUT, "part", 2, MIN, 60, 3);
        home.refuses(OUT, "part", 2, MIN, MIN, 3);
    }

    private static void partToLessThanFrom() {
        Home home = Home.of("abc", "", A60);
        home.makes(3, "", "part", 0, 1, 1, 3);
        home.makes(3, "", "part", 0, 0, 0, 3);
        home.makes(3, "", "part", 2, 60, 60, 3);
        home.refuses(OUT, "part", 0, 1, 0, 3);
        home.refuses(OUT, "part", 0, 3, 2, 3);
        home.refuses(OUT, "part", 0, 0, -1, 3);
        home.refuses(OUT, "part", 1, 0, -1, 3);
        home.refuses(OUT, "part", 2, 60, 59, 2);
        home.refuses(OUT, "part", 0, 2, MIN, 3);
        home.refuses(OUT, "part", 0, MAX, 3, 3);
    }

    private static void partAboveEnd() {
        Home home = Home.of("abc", "", A60);
        home.makes(3, "bc", "part", 0, 1, 3, 3);
        home.makes(3, "", "part", 0, 3, 3, 3);
        home.makes(3, A60, "part", 2, 0, 60, 3);
        home.makes(3, "", "part", 1, 0, 0, 3);
        home.refuses(OUT, "part", 0, 1, 4, 3);
        home.refuses(OUT, "part", 0, 4, 4, 3);
        home.refuses(OUT, "part", 0, 0, MAX, 3);
        home.refuses(OUT, "part", 0, MAX, MAX, 3);
        home.refuses(OUT, "part", 1, 0, 1, 3);
        home.refuses(OUT, "part", 1, 1, 1, 3);
        home.refuses(OUT, "part", 2, 0, 61, 3);
        home.refuses(OUT, "part", 2, 61, 61, 2);
        // How long the one is that becomes it has no say.
        home.refuses(OUT, "part", 0, 0, 60, 2);
    }

    // ---- 6: tail

    private static void tailTellsHowLong() {
        Home home = Home.of("abc", A60);
        home.makes(2, "abc", "tail", 0, 0, 2);
        home.makes(2, "c", "tail", 0, 2, 2);
        home.makes(2, "", "tail", 0, 3, 2);
        home.makes(2, A60, "tail", 1, 0, 2);
        home.makes(2, A59, "tail", 1, 1, 2);
        home.makes(0, "bc", "tail", 0, 1, 0);
        home.makes(0, "bc", "tail", 0, 0, 0);
    }

    private static void tailNoText() {
        Home home = Home.of("ab", "", "", "cx");
        home.makes(3, "b", "tail", 0, 1, 3);
        home.makes(0, "b", "tail", 3, 0, 0);
        refusesNoText(0, "tail", 0, 0, 1);
        refusesNoText(2, "tail", 0, 1, 1);
    }

    private static void tailFromBelow0() {
        Home home = Home.of("abc", "", A60);
        home.makes(3, "abc", "tail", 0, 0, 3);
        home.makes(3, "", "tail", 1, 0, 3);
        for (int from : new int[] {-1, -2, MIN}) {
            home.refuses(OUT, "tail", 0, from, 3);
            home.refuses(OUT, "tail", 1, from, 1);
            home.refuses(OUT, "tail", 2, from, 0);
        }
    }

    private static void tailAboveEnd() {
        Home home = Home.of("abc", "", A60);
        home.makes(3, "", "tail", 0, 3, 3);
        home.makes(3, "", "tail", 1, 0, 3);
        home.makes(3, "a", "tail", 2, 59, 3);
        home.makes(3, "", "tail", 2, 60, 3);
        home.refuses(OUT, "tail", 0, 4, 2);
        home.refuses(OUT, "tail", 1, 1, 2);
        home.refuses(OUT, "tail", 2, 61, 2);
        home.refuses(OUT, "tail", 0, 60, 2);
        home.refuses(OUT, "tail", 0, MAX, 0);
    }

    // ---- 7: join

    private static void joinTellsHowLong() {
        Home home = Home.of("", "a", "bc", "x");
        home.makes(3, "", "join", 0, 0, 3);
        home.makes(3, "a", "join", 0, 1, 3);
        home.makes(3, "bc", "join", 2, 0, 3);
        home.makes(3, "abc", "join", 1, 2, 3);
        home.makes(3, "bca", "join", 2, 1, 3);
        home.makes(3, "bcabca", "join", 3, 3, 3);
        home.makes(2, "abc", "join", 1, 2, 2);
        home.makes(2, "abca", "join", 2, 1, 2);
    }

    private static void joinNoText() {
        Home home = Home.of("a", "", "", "b");
        home.makes(1, "ab", "join", 0, 3, 1);
        home.makes(3, "ba", "join", 3, 0, 3);
        home.makes(0, "aa", "join", 0, 0, 0);
        refusesNoText(0, "join", 0, 1, 3);
        refusesNoText(1, "join", 0, 1, 3);
        refusesNoText(2, "join", 0, 1, 3);
    }

    private static void joinTooLong() {
        int[][] sizes = {{30, 30}, {60, 0}, {0, 60}, {59, 1}, {1, 59}};
        for (int[] pair : sizes) {
            String one = many("a", pair[0]);
            String other = many("b", pair[1]);
            Home.of(one, other, "c").makes(2, one + other, "join", 0, 1, 2);
            Home.of(one, other, "c").makes(0, one + other, "join", 0, 1, 0);
            Home.of(one, other, "c").makes(1, other + one, "join", 1, 0, 1);
            if (pair[0] < 60) {
                Home.of(one + "a", other, "c").refuses(STATE, "join", 0, 1, 2);
                Home.of(one + "a", other, "c").refuses(STATE, "join", 1, 0, 0);
            }
            if (pair[1] < 60) {
                Home.of(one, other + "b", "c").refuses(STATE, "join", 0, 1, 1);
                Home.of(one, other + "b", "c").refuses(STATE, "join", 1, 0, 2);
            }
        }
        Home.of(many("a", 30)).makes(0, A60, "join", 0, 0, 0);
        Home.of(many("a", 31)).refuses(STATE, "join", 0, 0, 0);
        Home.of(A60, A60).refuses(STATE, "join", 0, 1, 3);
    }

    // ---- 8: times

    private static void timesTellsHowLong() {
        Home home = Home.of("ab", "", "c", A60);
        home.makes(1, "", "times", 0, 0, 1);
        home.makes(1, "ab", "times", 0, 1, 1);
        home.makes(1, "abab", "times", 0, 2, 1);
        home.makes(0, "", "times", 0, 0, 0);
        home.makes(2, "c", "times", 2, 1, 2);
        home.makes(2, many("c", 60), "times", 2, 60, 2);
        home.makes(3, A60, "times", 3, 1, 3);
        home.makes(3, "", "times", 3, 0, 3);
    }

    private static void timesNoText() {
        Home home = Home.of("a", "", "", "b");
        home.makes(3, "aa", "times", 0, 2, 3);
        home.makes(0, "aaaa", "times", 3, 2, 0);
        refusesNoText(0, "times", 0, 1, 1);
        refusesNoText(2, "times", 0, 1, 1);
        refusesNoText(2, "times", 0, 0, 1);
    }

    private static void timesNoSuchMany() {
        Home home = Home.of("b", "", A60);
        home.makes(3, "", "times", 0, 0, 3);
        home.makes(3, many("b", 59), "times", 0, 59, 3);
        home.makes(3, many("b", 60), "times", 0, 60, 3);
        home.makes(3, "", "times", 1, 60, 3);
        home.makes(3, "", "times", 2, 0, 3);
        for (int many : new int[] {-1, 61, MIN, MAX}) {
            home.refuses(ARGUMENT, "times", 0, many, 3);
            home.refuses(ARGUMENT, "times", 1, many, 0);
            home.refuses(ARGUMENT, "times", 2, many, 2);
        }
    }

    private static void timesTooLong() {
        for (int size = 1; size <= 60; size++) {
            String part = many("b", size - 1) + "a";
            int most = 60 / size;
            Home home = Home.of(part, "c");
            home.makes(1, many(part, most), "times", 0, most, 1);
            if (most < 60) {
                home.refuses(STATE, "times", 0, most + 1, 1);
                home.refuses(STATE, "times", 0, 60, 0);
            }
        }
    }

    // ---- 9: trim

    private static void trimTellsHowLong() {
        Home home = Home.of("", " ", "\001b ", "c");
        for (boolean isStripped : new boolean[] {false, true}) {
            home.makes(3, "", "trim", 0, isStripped, 3);
            home.makes(3, "", "trim", 1, isStripped, 3);
            home.makes(3, isStripped ? "\001b" : "b", "trim", 2, isStripped, 3);
            home.makes(3, isStripped ? "\001b" : "b", "trim", 3, isStripped, 3);
        }
        Home full = Home.of(A60, " " + A58 + " ", many(" ", 60));
        full.makes(3, A60, "trim", 0, false, 3);
        full.makes(3, A60, "trim", 0, true, 3);
        full.makes(3, A58, "trim", 1, false, 3);
        full.makes(1, A58, "trim", 1, true, 1);
        full.makes(2, "", "trim", 2, true, 2);
    }

    private static void trimNoText() {
        Home home = Home.of(" a ", "", "", " b ");
        home.makes(3, "a", "trim", 0, true, 3);
        home.makes(0, "a", "trim", 3, false, 0);
        for (boolean isStripped : new boolean[] {false, true}) {
            refusesNoText(0, "trim", 3, isStripped, 1);
            refusesNoText(2, "trim", 3, isStripped, 1);
        }
    }

    // ---- 10: number

    private static void numberTellsHowLong() {
        for (int number : new int[] {0, 9, 10, -1, -9, -10, 999999999, 1000000000, MAX, MIN, MIN + 1}) {
            String digits = Integer.toString(number);
            Home home = Home.of("b", "", "x");
            home.makes(0, "b" + digits, "number", 0, number, false);
            home.makes(1, digits, "number", 1, number, false);
            home.makes(2, digits + "x", "number", 2, number, true);
            home.makes(3, digits, "number", 3, number, true);
        }
    }

    private static void numberNoText() {
        Home home = Home.of("a", "", "", "b");
        home.makes(0, "a7", "number", 0, 7, false);
        home.makes(3, "7b", "number", 3, 7, true);
        refusesNoText(0, "number", 0, 7, false);
        refusesNoText(0, "number", 0, MIN, true);
    }

    private static void numberTooLong() {
        for (int number : new int[] {0, 9, 10, -1, -10, MAX, MIN}) {
            String digits = Integer.toString(number);
            String most = many("b", 60 - digits.length());
            Home.of(most).makes(0, most + digits, "number", 0, number, false);
            Home.of(most).makes(0, digits + most, "number", 0, number, true);
            Home home = Home.of(most + "b");
            home.refuses(STATE, "number", 0, number, false);
            home.refuses(STATE, "number", 0, number, true);
            home.makes(1, digits, "number", 1, number, true);
        }
        Home.of(A60).refuses(STATE, "number", 0, 0, false);
        Home.of(A60).refuses(STATE, "number", 0, 0, true);
    }

    // ---- 11: great

    private static final long[] GREAT = {
        0, -1, 1, 9, 10, MAX, MIN, MAX + 1L, MIN - 1L, 4294967295L, 4294967296L, 4294967297L, -4294967296L,
        -4294967297L, -4294967295L, 999999999999999999L, 1000000000000000000L, -1000000000000000000L,
        Long.MAX_VALUE, Long.MIN_VALUE, Long.MIN_VALUE + 1, Long.MAX_VALUE - 4294967295L
    };

    private static void greatOfHalves() {
        Home home = new Home();
        home.makes(0, "4294967295", "great", 0, 0, -1);
        home.makes(1, "4294967296", "great", 1, 1, 0);
        home.makes(2, "-1", "great", 2, -1, -1);
        home.makes(3, "-4294967296", "great", 3, -1, 0);
        Home other = new Home();
        other.makes(0, "2147483648", "great", 0, 0, MIN);
        other.makes(1, "2147483647", "great", 1, 0, MAX);
        other.makes(2, "9223372036854775807", "great", 2, MAX, -1);
        other.makes(3, "-9223372036854775808", "great", 3, MIN, 0);
        Home third = new Home();
        third.makes(0, "-9223372036854775807", "great", 0, MIN, 1);
        third.makes(1, "-9223372032559808513", "great", 1, MIN, -1);
        third.makes(2, "9223372032559808512", "great", 2, MAX, 0);
        third.makes(3, "-2147483648", "great", 3, -1, MIN);
    }

    private static void greatTellsHowLong() {
        for (long number : GREAT) {
            String digits = Long.toString(number);
            Home home = Home.of("b");
            home.makes(0, "b" + digits, "great", 0, (int) (number >> 32), (int) number);
            home.makes(3, digits, "great", 3, (int) (number >> 32), (int) number);
        }
    }

    private static void greatNoText() {
        Home home = Home.of("a", "", "", "b");
        home.makes(0, "a7", "great", 0, 0, 7);
        home.makes(3, "b7", "great", 3, 0, 7);
        refusesNoText(0, "great", 0, 0, 7);
        refusesNoText(0, "great", 0, MIN, 0);
    }

    private static void greatTooLong() {
        for (long number : GREAT) {
            String digits = Long.toString(number);
            String most = many("b", 60 - digits.length());
            Home.of(most).makes(0, most + digits, "great", 0, (int) (number >> 32), (int) number);
            Home home = Home.of("c", "", most + "b");
            home.refuses(STATE, "great", 2, (int) (number >> 32), (int) number);
        }
        Home.of(A60).refuses(STATE, "great", 0, 0, 0);
    }

    // ---- 12: truth

    private static void truthTellsHowLong() {
        Home home = Home.of("", "b", "c");
        home.makes(0, "true", "truth", 0, true, false);
        home.makes(0, "falsetrue", "truth", 0, false, true);
        home.makes(1, "bfalse", "truth", 1, false, false);
        home.makes(2, "truec", "truth", 2, true, true);
    }

    private static void truthNoText() {
        Home home = Home.of("a", "", "", "b");
        home.makes(0, "atrue", "truth", 0, true, false);
        home.makes(3, "falseb", "truth", 3, false, true);
        refusesNoText(0, "truth", 0, true, false);
        refusesNoText(0, "truth", 0, false, true);
    }

    private static void truthTooLong() {
        for (boolean is : new boolean[] {false, true}) {
            String word = is ? "true" : "false";
            String most = many("b", 60 - word.length());
            Home.of(most).makes(0, most + word, "truth", 0, is, false);
            Home.of(most).makes(0, word + most, "truth", 0, is, true);
            Home home = Home.of(most + "b", A60);
            home.refuses(STATE, "truth", 0, is, false);
            home.refuses(STATE, "truth", 0, is, true);
            home.refuses(STATE, "truth", 1, is, false);
        }
    }

    // ---- 13: ahead

    private static void aheadTellsHowLong() {
        Home home = Home.of("", "b", A59);
        home.makes(0, "a", "ahead", 0, 0);
        home.makes(0, "\311a", "ahead", 0, 23);
        home.makes(1, ",b", "ahead", 1, 12);
        home.makes(2, "b" + A59, "ahead", 2, 1);
    }

    private static void aheadNoText() {
        Home home = Home.of("a", "", "", "b");
        home.makes(0, "ba", "ahead", 0, 1);
        home.makes(3, "ab", "ahead", 3, 0);
        refusesNoText(0, "ahead", 0, 0);
    }

    private static void aheadNoSign() {
        for (int sign = 0; sign <= 23; sign++) {
            Home.of("ab").makes(0, Home.SIGNS.charAt(sign) + "ab", "ahead", 0, sign);
        }
        refusesEach(ARGUMENT, NO_SIGN, 1, "ahead", 0, 0);
        refusesEach(ARGUMENT, NO_SIGN, 1, "ahead", 2, 0);
    }

    private static void aheadTooLong() {
        for (int text = 0; text < 4; text++) {
            Home home = Home.of(A58, A58, A58, A58);
            home.makes(text, "b" + A58, "ahead", text, 1);
            home.makes(text, "cb" + A58, "ahead", text, 2);
            home.refuses(STATE, "ahead", text, 0);
            home.refuses(STATE, "ahead", text, 23);
        }
    }

    // ---- 14: known

    private static void knownTellsHowLong() {
        for (int known = 0; known < 7; known++) {
            Home home = Home.of("", "b");
            home.makes(0, KNOWN[known], "known", 0, known);
            home.makes(1, "b" + KNOWN[known], "known", 1, known);
        }
    }

    private static void knownNoText() {
        Home home = Home.of("a", "", "", "b");
        home.makes(0, "aab", "known", 0, 2);
        home.makes(3, "bA", "known", 3, 3);
        home.makes(3, "bA", "known", 3, 0);
        refusesNoText(0, "known", 0, 1);
        refusesNoText(0, "known", 0, 0);
    }

    private static void knownNotThere() {
        Home home = Home.of("b", A60);
        home.makes(0, "b", "known", 0, 0);
        home.makes(0, "baB-1", "known", 0, 6);
        home.refuses(ARGUMENT, "known", 0, -1);
        home.refuses(ARGUMENT, "known", 0, 7);
        home.refuses(ARGUMENT, "known", 1, 7);
        refusesEach(ARGUMENT, NO_KNOWN, 1, "known", 0, 0);
    }

    private static void knownTooLong() {
        for (int known = 0; known < 7; known++) {
            String most = many("b", 60 - KNOWN[known].length());
            Home.of(most).makes(0, most + KNOWN[known], "known", 0, known);
            if (known > 0) {
                Home home = Home.of("c", most + "b", A60);
                home.refuses(STATE, "known", 1, known);
                home.refuses(STATE, "known", 2, known);
            }
        }
    }

    // ---- 15: lay

    private static void layTellsHowLong() {
        Home home = Home.of("", "a", A60, "abc");
        home.laysRow("a", 1);
        home.refuses(OUT, "rowAt", 1);
        home.laysRow(A60, 2);
        home.tells(97, "rowAt", 59);
        home.refuses(OUT, "rowAt", 60);
        home.laysRow("abc", 3);
        home.refuses(OUT, "rowAt", 3);
        home.laysRow("", 0);
        home.refuses(OUT, "rowAt", 0);
        // The row and the text go on apart.
        home.laysRow("abc", 3);
        home.setsRow("Abc", 97, 0, 4);
        home.makes(3, "abcb", "put", 3, 1, -1, -1, -1, -1);
        home.clears(3);
    }

    private static void layNoText() {
        Home home = Home.of("ab", "", "", "c");
        home.laysRow("ab", 0);
        home.laysRow("c", 3);
        home.laysRow("", 2);
        refusesNoText(0, "lay", 0);
    }

    // ---- 16: set

    private static void setTellsWhatWasThere() {
        Home home = Home.ofRow("a\311");
        home.setsRow("\351\311", 97, 0, 22);
        home.setsRow("\351\001", 201, 1, 19);
        home.setsRow("A\001", 233, 0, 4);
        home.setsRow("A\001", 65, 0, 4);
        home.setsRow("A ", 1, 1, 16);
        Home full = Home.ofRow("b" + A59);
        full.setsRow("x" + A59, 98, 0, 3);
        full.setsRow("x" + A58 + "X", 97, 59, 7);
        full.makes(0, "x" + A58 + "X", "take", 0);
        Home letters = new Home();
        letters.makes(0, "true", "truth", 0, true, false);
        letters.laysRow("true", 0);
        letters.setsRow("trua", 101, 3, 0);
        letters.setsRow("arua", 116, 0, 0);
    }

    private static void setNoPlace() {
        Home home = Home.ofRow("abc");
        home.setsRow("bbc", 97, 0, 1);
        home.setsRow("bbb", 99, 2, 1);
        for (int place : new int[] {-1, 3, 4, 60, MIN, MAX}) {
            home.refuses(OUT, "set", place, 0);
        }
        Home full = Home.ofRow(A60, "", "ab");
        full.setsRow(A59 + "b", 97, 59, 1);
        full.refuses(OUT, "set", 60, 0);
        full.laysRow("ab", 1);
        full.refuses(OUT, "set", 2, 0);
        full.laysRow("", 0);
        full.refuses(OUT, "set", 0, 0);
        new Home().refuses(OUT, "set", 0, 0);
        new Home().refuses(OUT, "set", -1, 0);
    }

    private static void setNoSign() {
        for (int sign = 0; sign <= 23; sign++) {
            Home.ofRow("ab").setsRow("a" + Home.SIGNS.charAt(sign), 98, 1, sign);
        }
        for (int sign : NO_SIGN) {
            Home home = Home.ofRow("ab");
            home.refuses(ARGUMENT, "set", 0, sign);
            home.refuses(ARGUMENT, "set", 1, sign);
        }
    }

    // ---- 17: take

    private static void takeTellsHowLong() {
        for (String row : new String[] {"a", "ab", A59 + "b", "\311"}) {
            Home home = Home.ofRow(row, "", "c", A60);
            home.makes(0, row, "take", 0);
            home.makes(1, row, "take", 1);
            home.makes(2, row, "take", 2);
            // The row and the text go on apart.
            home.setsRow("x" + row.substring(1), row.charAt(0), 0, 3);
            home.clears(1);
        }
        Home empty = Home.of("", A60);
        empty.laysRow("", 0);
        empty.makes(1, "", "take", 1);
        new Home().makes(3, "", "take", 3);
    }

    private static void takeNoText() {
        Home home = Home.ofRow("ab", "c", "", "", "c");
        home.makes(0, "ab", "take", 0);
        home.makes(3, "ab", "take", 3);
        refusesNoText(0, "take", 0);
    }

    // ---- 18: takePart

    private static void takePartTellsHowLong() {
        Home home = Home.ofRow("abcx", "A", A60);
        home.makes(0, "", "takePart", 0, 0, 0);
        home.makes(0, "a", "takePart", 0, 0, 1);
        home.makes(0, "x", "takePart", 0, 3, 1);
        home.makes(1, "abcx", "takePart", 1, 0, 4);
        home.makes(1, "bc", "takePart", 1, 1, 2);
        Home full = Home.ofRow("b" + A58 + "c");
        full.makes(0, "b" + A58 + "c", "takePart", 0, 0, 60);
        full.makes(1, A58 + "c", "takePart", 1, 1, 59);
        full.makes(2, "c", "takePart", 2, 59, 1);
        full.makes(3, "", "takePart", 3, 60, 0);
    }

    private static void takePartNoText() {
        Home home = Home.ofRow("ab", "c", "", "", "c");
        home.makes(0, "b", "takePart", 0, 1, 1);
        home.makes(3, "a", "takePart", 3, 0, 1);
        refusesNoText(0, "takePart", 0, 0, 0);
        refusesNoText(0, "takePart", 0, 0, 1);
    }

    private static void takePartBelow0() {
        Home home = Home.ofRow("abc", "c");
        home.makes(0, "a", "takePart", 0, 0, 1);
        home.makes(0, "", "takePart", 0, 1, 0);
        home.refuses(OUT, "takePart", 0, -1, 1);
        home.refuses(OUT, "takePart", 0, -1, 0);
        home.refuses(OUT, "takePart", 0, -1, 4);
        home.refuses(OUT, "takePart", 0, 0, -1);
        home.refuses(OUT, "takePart", 0, 3, -1);
        home.refuses(OUT, "takePart", 0, 4, -1);
        home.refuses(OUT, "takePart", 0, -1, -1);
        home.refuses(OUT, "takePart", 0, MIN, MIN);
        home.refuses(OUT, "takePart", 0, MIN, MAX);
        home.refuses(OUT, "takePart", 0, MAX, MIN);
        home.refuses(OUT, "takePart", 0, 2, MIN);
    }

    private static void takePartAboveEnd() {
        Home home = Home.ofRow("abc", "c");
        home.makes(0, "bc", "takePart", 0, 1, 2);
        home.makes(0, "abc", "takePart", 0, 0, 3);
        home.makes(0, "", "takePart", 0, 3, 0);
        int[][] beyond = {{1, 3}, {0, 4}, {3, 1}, {4, 0}, {2, 2}, {1, MAX}, {MAX, 1}, {MAX, MAX}, {MAX, 0}, {0, MAX}};
        for (int[] part : beyond) {
            home.refuses(OUT, "takePart", 0, part[0], part[1]);
        }
        Home full = Home.ofRow(A60, "c");
        full.makes(0, A60, "takePart", 0, 0, 60);
        full.refuses(OUT, "takePart", 0, 0, 61);
        full.refuses(OUT, "takePart", 0, 60, 1);
        full.refuses(OUT, "takePart", 0, 61, 0);
        Home none = new Home();
        none.makes(0, "", "takePart", 0, 0, 0);
        none.refuses(OUT, "takePart", 0, 0, 1);
        none.refuses(OUT, "takePart", 0, 1, 0);
    }

    // ---- 19: cut

    private static void cutTellsHowMany() {
        Home home = Home.of("", ",", "a", "a,b");
        home.cuts(0, "");
        home.cuts(1);
        home.cuts(2, "a");
        home.cuts(3, "a", "b");
        // The pieces stay when their text changes.
        home.makes(3, "a,bc", "put", 3, 2, -1, -1, -1, -1);
        home.clears(3);
        home.tells("b", "piece", 1);
        Home full = Home.of(many(",", 60), many(",", 59) + "b", "b" + many(",", 59), many("a,", 30));
        full.cuts(0);
        full.cuts(1, (many(",", 59) + "b").split(","));
        full.cuts(2, "b");
        full.cuts(3, many("a,", 30).split(","));
    }

    private static void cutNoText() {
        Home home = Home.of("a,b", "", "", "c");
        home.cuts(0, "a", "b");
        home.cuts(3, "c");
        refusesNoText(0, "cut", 0);
    }

    // ---- 20: takePiece

    private static void takePieceTellsHowLong() {
        Home home = Home.ofCut("ab,,x", "c", A60);
        home.makes(0, "ab", "takePiece", 0, 0);
        home.makes(0, "", "takePiece", 1, 0);
        home.makes(1, "x", "takePiece", 2, 1);
        home.makes(2, "ab", "takePiece", 0, 2);
        Home full = Home.ofCut(A60, "c");
        full.makes(0, A60, "takePiece", 0, 0);
        Home own = Home.of("a,bc");
        own.cuts(0, "a", "bc");
        own.makes(0, "bc", "takePiece", 1, 0);
        own.makes(0, "a", "takePiece", 0, 0);
    }

    private static void takePieceNotThere() {
        Home home = Home.ofCut("ab,,x", "c", "b,a", ",");
        home.makes(0, "ab", "takePiece", 0, 0);
        home.makes(0, "x", "takePiece", 2, 0);
        for (int piece : new int[] {-1, 3, 4, 60, MIN, MAX}) {
            home.refuses(OUT, "takePiece", piece, 0);
        }
        home.cuts(1, "b", "a");
        home.makes(0, "a", "takePiece", 1, 0);
        home.refuses(OUT, "takePiece", 2, 0);
        home.cuts(2);
        home.refuses(OUT, "takePiece", 0, 0);
        home.cuts(3, "");
        home.makes(0, "", "takePiece", 0, 0);
        home.refuses(OUT, "takePiece", 1, 0);
        new Home().refuses(OUT, "takePiece", 0, 0);
        Home most = Home.ofCut(many(",", 59) + "b", "c");
        most.makes(0, "b", "takePiece", 59, 0);
        most.refuses(OUT, "takePiece", 60, 0);
    }

    private static void takePieceNoText() {
        Home home = Home.ofCut("a,b", "c", "", "", "c");
        home.makes(0, "b", "takePiece", 1, 0);
        home.makes(3, "a", "takePiece", 0, 3);
        refusesNoText(1, "takePiece", 0, 0);
        refusesNoText(1, "takePiece", 1, 0);
    }

    // ---- 21: knock

    private static void knockTellsHowOften() {
        Home home = new Home();
        home.knocks();
        home.knocks();
        home.makes(0, "a", "put", 0, 0, -1, -1, -1, -1);
        home.refuses(OUT, "clear", 4);
        home.knocks();
        home.tells(3, "house", 4);
        new Home().knocks();
        Home often = new Home();
        often.knocksUnasked(512);
    }

    // ---- 22 to 27: what is asked of one text

    private static void textTellsIt() {
        Home home = Home.of("", Home.SIGNS, A60, "\311");
        home.tells("", "text", 0);
        home.tells(Home.SIGNS, "text", 1);
        home.tells(A60, "text", 2);
        home.tells("\311", "text", 3);
        home.clears(3);
        home.tells("", "text", 3);
    }

    private static void textNoText() {
        Home home = Home.of("a", "", "", "b");
        home.tells("a", "text", 0);
        home.tells("b", "text", 3);
        refusesNoText(0, "text", 0);
    }

    private static void lengthTells() {
        Home home = Home.of("", "a", A59, A60);
        home.tells(0, "length", 0);
        home.tells(1, "length", 1);
        home.tells(59, "length", 2);
        home.tells(60, "length", 3);
        home.clears(3);
        home.tells(0, "length", 3);
    }

    private static void lengthNoText() {
        Home home = Home.of("a", "", "", "ab");
        home.tells(1, "length", 0);
        home.tells(2, "length", 3);
        refusesNoText(0, "length", 0);
    }

    private static void atTellsCode() {
        Home home = Home.of("a\001\311", A58 + "bX");
        home.tells(97, "at", 0, 0);
        home.tells(1, "at", 0, 1);
        home.tells(201, "at", 0, 2);
        home.tells(97, "at", 1, 0);
        home.tells(98, "at", 1, 58);
        home.tells(88, "at", 1, 59);
        home.makes(0, "\240a\001\311", "ahead", 0, 21);
        home.tells(160, "at", 0, 0);
        home.tells(201, "at", 0, 3);
    }

    private static void atNoText() {
        Home home = Home.of("a", "", "", "b");
        home.tells(97, "at", 0, 0);
        home.tells(98, "at", 3, 0);
        refusesNoText(0, "at", 0, 0);
    }

    private static void atNoPlace() {
        Home home = Home.of("abc", "", A60, "abcx");
        home.tells(97, "at", 0, 0);
        home.tells(99, "at", 0, 2);
        for (int place : new int[] {-1, 3, 4, 60, MIN, MAX}) {
            home.refuses(OUT, "at", 0, place);
        }
        home.refuses(OUT, "at", 1, 0);
        home.refuses(OUT, "at", 1, -1);
        home.refuses(OUT, "at", 2, 60);
        // What was cut off is there no more.
        home.makes(3, "abc", "part", 3, 0, 3, 3);
        home.refuses(OUT, "at", 3, 3);
        home.clears(2);
        home.refuses(OUT, "at", 2, 0);
    }

    private static void isEmptyTells() {
        Home home = Home.of("", "a", " ", A60);
        home.tells(true, "isEmpty", 0);
        home.tells(false, "isEmpty", 1);
        home.tells(false, "isEmpty", 2);
        home.tells(false, "isEmpty", 3);
        home.makes(2, "", "trim", 2, true, 2);
        home.tells(true, "isEmpty", 2);
        home.makes(0, "\001", "ahead", 0, 19);
        home.tells(false, "isEmpty", 0);
    }

    private static void isEmptyNoText() {
        Home home = Home.of("a", "", "", "");
        home.tells(false, "isEmpty", 0);
        home.tells(true, "isEmpty", 3);
        refusesNoText(0, "isEmpty", 0);
    }

    private static void isBlankTells() {
        Home home = Home.of("", " ", "\034\n\t ", "\001");
        home.tells(true, "isBlank", 0);
        home.tells(true, "isBlank", 1);
        home.tells(true, "isBlank", 2);
        home.tells(false, "isBlank", 3);
        home.makes(1, " a", "put", 1, 0, -1, -1, -1, -1);
        home.tells(false, "isBlank", 1);
        home.makes(2, "a\034\n\t ", "ahead", 2, 0);
        home.tells(false, "isBlank", 2);
        home.makes(0, " \240 ", "put", 0, 16, 21, 16, -1, -1);
        home.tells(false, "isBlank", 0);
    }

    private static void isBlankNoText() {
        Home home = Home.of("a", "", "", " ");
        home.tells(false, "isBlank", 0);
        home.tells(true, "isBlank", 3);
        refusesNoText(0, "isBlank", 0);
    }

    private static void hashTells() {
        Home home = Home.of("", "a", A60, "-0-aAaa\311");
        home.tells(0, "hash", 0);
        home.tells(97, "hash", 1);
        home.tells(A60.hashCode(), "hash", 2);
        home.tells(MAX, "hash", 3);
        home.makes(3, "-0-aAaa", "part", 3, 0, 7, 3);
        home.tells("-0-aAaa".hashCode(), "hash", 3);
        Home.of("-0-aAbA\351").tells(MIN, "hash", 0);
    }

    private static void hashNoText() {
        Home home = Home.of("a", "", "", "b");
        home.tells(97, "hash", 0);
        home.tells(98, "hash", 3);
        refusesNoText(0, "hash", 0);
    }

    // ---- 28 to 32: places of a sign, of a known text

    private static void firstTells() {
        Home home = Home.of("abca", "", "b" + A58 + "c", "\311");
        home.tells(0, "first", 0, 0);
        home.tells(1, "first", 0, 1);
        home.tells(2, "first", 0, 2);
        home.tells(NONE, "first", 0, 4);
        home.tells(NONE, "first", 1, 0);
        home.tells(59, "first", 2, 2);
        home.tells(NONE, "first", 2, 3);
        home.tells(0, "first", 3, 23);
        home.tells(NONE, "first", 3, 22);
        home.makes(0, "ab", "part", 0, 0, 2, 0);
        home.tells(NONE, "first", 0, 2);
    }

    private static void firstNoText() {
        Home home = Home.of("ba", "", "", "cba");
        home.tells(1, "first", 0, 0);
        home.tells(2, "first", 3, 0);
        refusesNoText(0, "first", 0, 0);
    }

    private static void firstNoSign() {
        Home home = Home.of("\311" + "a", "");
        home.tells(1, "first", 0, 0);
        home.tells(0, "first", 0, 23);
        home.tells(NONE, "first", 1, 23);
        refusesEach(ARGUMENT, NO_SIGN, 1, "first", 0, 0);
        refusesEach(ARGUMENT, NO_SIGN, 1, "first", 2, 0);
    }

    private static void lastTells() {
        Home home = Home.of("abca", "", "b" + A58 + "c", "\311");
        home.tells(3, "last", 0, 0);
        home.tells(1, "last", 0, 1);
        home.tells(2, "last", 0, 2);
        home.tells(NONE, "last", 0, 4);
        home.tells(NONE, "last", 1, 0);
        home.tells(0, "last", 2, 1);
        home.tells(59, "last", 2, 2);
        home.tells(58, "last", 2, 0);
        home.tells(0, "last", 3, 23);
        home.tells(NONE, "last", 3, 22);
        home.makes(0, "ab", "part", 0, 0, 2, 0);
        home.tells(0, "last", 0, 0);
        home.tells(NONE, "last", 0, 2);
    }

    private static void lastNoText() {
        Home home = Home.of("ba", "", "", "cba");
        home.tells(1, "last", 0, 0);
        home.tells(2, "last", 3, 0);
        refusesNoText(0, "last", 0, 0);
    }

    private static void lastNoSign() {
        Home home = Home.of("\311" + "a", "");
        home.tells(1, "last", 0, 0);
        home.tells(0, "last", 0, 23);
        home.tells(NONE, "last", 1, 23);
        refusesEach(ARGUMENT, NO_SIGN, 1, "last", 0, 0);
        refusesEach(ARGUMENT, NO_SIGN, 1, "last", 2, 0);
    }

    private static void nextTells() {
        Home home = Home.of("abca", "", A59 + "b");
        home.tells(0, "next", 0, 0, 0);
        home.tells(3, "next", 0, 1, 0);
        home.tells(3, "next", 0, 3, 0);
        home.tells(NONE, "next", 0, 4, 0);
        home.tells(1, "next", 0, 1, 1);
        home.tells(NONE, "next", 0, 2, 1);
        home.tells(NONE, "next", 0, 0, 4);
        home.tells(NONE, "next", 1, 0, 0);
        home.tells(59, "next", 2, 0, 1);
        home.tells(59, "next", 2, 59, 1);
        home.tells(NONE, "next", 2, 60, 1);
    }

    private static void nextNoText() {
        Home home = Home.of("ba", "", "", "cba");
        home.tells(1, "next", 0, 0, 0);
        home.tells(2, "next", 3, 2, 0);
        refusesNoText(0, "next", 0, 0, 0);
    }

    private static void nextFromBelow0OrAboveEnd() {
        Home home = Home.of("aba", "", A60);
        home.tells(0, "next", 0, 0, 0);
        home.tells(NONE, "next", 0, 3, 0);
        home.tells(NONE, "next", 1, 0, 0);
        home.tells(NONE, "next", 2, 60, 0);
        for (int from : new int[] {-1, 4, MIN, MAX}) {
            home.refuses(OUT, "next", 0, from, 0);
            home.refuses(OUT, "next", 0, from, 4);
        }
        home.refuses(OUT, "next", 1, 1, 0);
        home.refuses(OUT, "next", 1, -1, 0);
        home.refuses(OUT, "next", 2, 61, 0);
        home.refuses(OUT, "next", 0, 60, 0);
    }

    private static void nextNoSign() {
        Home home = Home.of("\311" + "a");
        home.tells(1, "next", 0, 0, 0);
        home.tells(0, "next", 0, 0, 23);
        home.tells(NONE, "next", 0, 2, 23);
        refusesEach(ARGUMENT, NO_SIGN, 2, "next", 0, 0, 0);
        refusesEach(ARGUMENT, NO_SIGN, 2, "next", 0, 2, 0);
        refusesEach(ARGUMENT, NO_SIGN, 2, "next", 2, 0, 0);
    }

    private static void beginsTells() {
        Home home = Home.of("", "a", "aB-1", "x.x.x");
        for (boolean isEnd : new boolean[] {false, true}) {
            home.tells(true, "begins", 0, 0, isEnd);
            home.tells(false, "begins", 0, 1, isEnd);
            home.tells(true, "begins", 1, 1, isEnd);
            // One sign shorter than what is asked for.
            home.tells(false, "begins", 1, 2, isEnd);
            home.tells(false, "begins", 1, 3, isEnd);
            home.tells(true, "begins", 2, 6, isEnd);
            home.tells(true, "begins", 3, 5, isEnd);
            home.tells(true, "begins", 3, 0, isEnd);
            home.tells(!isEnd, "begins", 2, 1, isEnd);
        }
        Home full = Home.of("aB-1" + many("b", 52) + "x.x,", many("b", 58) + "ab", "aB-", "B-1");
        full.tells(true, "begins", 0, 6, false);
        full.tells(true, "begins", 0, 4, true);
        full.tells(false, "begins", 0, 5, true);
        full.tells(true, "begins", 1, 2, true);
        full.tells(false, "begins", 1, 2, false);
        full.tells(false, "begins", 2, 6, false);
        full.tells(false, "begins", 3, 6, true);
    }

    private static void beginsNoText() {
        Home home = Home.of("ab", "", "", ",");
        home.tells(true, "begins", 0, 2, false);
        home.tells(true, "begins", 3, 4, true);
        refusesNoText(0, "begins", 0, 0, false);
        refusesNoText(0, "begins", 0, 1, true);
    }

    private static void beginsNotKnown() {
        Home home = Home.of("aB-1");
        home.tells(true, "begins", 0, 0, false);
        home.tells(true, "begins", 0, 6, true);
        for (boolean isEnd : new boolean[] {false, true}) {
            refusesEach(ARGUMENT, NO_KNOWN, 1, "begins", 0, 0, isEnd);
            refusesEach(ARGUMENT, NO_KNOWN, 1, "begins", 2, 0, isEnd);
        }
    }

    private static void standsNotBelow0OrAboveEnd() {
        Home home = Home.of("aba", "", A59 + "b", A60);
        home.tells(true, "stands", 0, 0, 1, false);
        home.tells(true, "stands", 0, 2, 1, false);
        home.tells(true, "stands", 0, 3, 0, false);
        home.tells(false, "stands", 0, 3, 1, false);
        home.tells(true, "stands", 1, 0, 0, true);
        home.tells(true, "stands", 2, 58, 2, false);
        home.tells(false, "stands", 2, 59, 2, false);
        home.tells(true, "stands", 3, 59, 1, false);
        home.tells(false, "stands", 3, 59, 2, false);
        home.tells(true, "stands", 2, 60, 0, false);
        home.tells(false, "stands", 2, 61, 0, false);
        for (int place : new int[] {-1, -2, 4, 61, MIN, MAX}) {
            Home one = Home.of("aba", "");
            for (int known = 0; known < 7; known++) {
                one.tells(false, "stands", 0, place, known, false);
                one.tells(false, "stands", 0, place, known, true);
                one.tells(false, "stands", 1, place, known, true);
            }
        }
    }

    private static void standsNoText() {
        Home home = Home.of("ab", "", "", "xA");
        home.tells(true, "stands", 0, 0, 2, false);
        home.tells(true, "stands", 3, 1, 1, true);
        home.tells(false, "stands", 3, 1, 1, false);
        refusesNoText(0, "stands", 0, 0, 0, false);
        refusesNoText(0, "stands", 0, -1, 1, true);
    }

    private static void standsNotKnown() {
        Home home = Home.of("aB-1");
        home.tells(true, "stands", 0, 4, 0, false);
        home.tells(true, "stands", 0, 0, 6, true);
        refusesEach(ARGUMENT, NO_KNOWN, 2, "stands", 0, 0, 0, false);
        refusesEach(ARGUMENT, NO_KNOWN, 2, "stands", 0, -1, 0, true);
        refusesEach(ARGUMENT, NO_KNOWN, 2, "stands", 2, MAX, 0, true);
    }

    // ---- 33 to 38: what is asked of two texts

    private static void refusesNoPair(String name, Object... more) {
        for (int text : NO_TEXT) {
            for (int other : new int[] {0, 3, text}) {
                Home home = Home.of("ab", "b", "", "ab");
                home.refuses(OUT, name, joined(text, other, more));
                home.refuses(OUT, name, joined(other, text, more));
            }
        }
    }

    private static Object[] joined(int one, int other, Object... more) {
        Object[] args = new Object[more.length + 2];
        args[0] = one;
        args[1] = other;
        System.arraycopy(more, 0, args, 2, more.length);
        return args;
    }

    private static void firstOfTells() {
        Home home = Home.of("abcab", "ab", "", "abcabx");
        home.tells(0, "firstOf", 0, 1);
        home.tells(0, "firstOf", 0, 0);
        home.tells(0, "firstOf", 0, 2);
        home.tells(NONE, "firstOf", 0, 3);
        home.tells(0, "firstOf", 3, 0);
        home.tells(0, "firstOf", 2, 2);
        home.tells(NONE, "firstOf", 2, 1);
        Home ends = Home.of(A59 + "b", "b", "ab", A58 + "b");
        ends.tells(59, "firstOf", 0, 1);
        ends.tells(58, "firstOf", 0, 2);
        ends.tells(1, "firstOf", 0, 3);
        ends.tells(NONE, "firstOf", 3, 0);
    }

    private static void firstOfNoText() {
        Home home = Home.of("ab", "", "", "b");
        home.tells(1, "firstOf", 0, 3);
        home.tells(NONE, "firstOf", 3, 0);
        refusesNoPair("firstOf");
    }

    private static void lastOfTells() {
        Home home = Home.of("abcab", "ab", "", "abcabx");
        home.tells(3, "lastOf", 0, 1);
        home.tells(0, "lastOf", 0, 0);
        home.tells(5, "lastOf", 0, 2);
        home.tells(NONE, "lastOf", 0, 3);
        home.tells(0, "lastOf", 3, 0);
        home.tells(0, "lastOf", 2, 2);
        home.tells(NONE, "lastOf", 2, 1);
        Home ends = Home.of("b" + A59, "b", "ba", "");
        ends.tells(0, "lastOf", 0, 1);
        ends.tells(0, "lastOf", 0, 2);
        ends.tells(60, "lastOf", 0, 3);
        ends.tells(2, "lastOf", 2, 3);
        ends.tells(NONE, "lastOf", 2, 0);
    }

    private static void lastOfNoText() {
        Home home = Home.of("ab", "", "", "b");
        home.tells(1, "lastOf", 0, 3);
        home.tells(NONE, "lastOf", 3, 0);
        refusesNoPair("lastOf");
    }

    private static void isInTells() {
        Home home = Home.of("xabx", "ab", "", "B");
        home.tells(true, "isIn", 0, 1);
        home.tells(false, "isIn", 1, 0);
        home.tells(true, "isIn", 0, 0);
        home.tells(true, "isIn", 0, 2);
        home.tells(true, "isIn", 2, 2);
        home.tells(false, "isIn", 2, 1);
        home.tells(false, "isIn", 0, 3);
        Home ends = Home.of("b" + A58 + "c", "c", "b", "ac");
        ends.tells(true, "isIn", 0, 1);
        ends.tells(true, "isIn", 0, 2);
        ends.tells(true, "isIn", 0, 3);
        ends.tells(false, "isIn", 3, 0);
        ends.makes(0, "b" + A58, "part", 0, 0, 59, 0);
        ends.tells(false, "isIn", 0, 1);
    }

    private static void isInNoText() {
        Home home = Home.of("ab", "", "", "b");
        home.tells(true, "isIn", 0, 3);
        home.tells(false, "isIn", 3, 0);
        refusesNoPair("isIn");
    }

    private static void isSameTells() {
        Home home = Home.of("", "a", "A", "ab");
        for (boolean isLike : new boolean[] {false, true}) {
            home.tells(true, "isSame", 0, 0, isLike);
            home.tells(false, "isSame", 0, 1, isLike);
            home.tells(false, "isSame", 1, 0, isLike);
            home.tells(isLike, "isSame", 1, 2, isLike);
            home.tells(isLike, "isSame", 2, 1, isLike);
            home.tells(false, "isSame", 1, 3, isLike);
            home.tells(false, "isSame", 3, 1, isLike);
        }
        Home full = Home.of(A60, A59 + "A", A59 + "b", A59);
        full.tells(false, "isSame", 0, 1, false);
        full.tells(true, "isSame", 0, 1, true);
        full.tells(false, "isSame", 0, 2, true);
        full.tells(false, "isSame", 0, 3, true);
        full.tells(false, "isSame", 3, 0, false);
        full.makes(3, A60, "put", 3, 0, -1, -1, -1, -1);
        full.tells(true, "isSame", 0, 3, false);
    }

    private static void isSameNoText() {
        Home home = Home.of("ab", "", "", "ab");
        home.tells(true, "isSame", 0, 3, false);
        home.tells(true, "isSame", 3, 0, true);
        refusesNoPair("isSame", false);
        refusesNoPair("isSame", true);
    }

    private static void orderTells() {
        Home home = Home.of("", A60, A59 + "\311", "\001");
        home.tells(0, "order", 0, 0);
        home.tells(-60, "order", 0, 1);
        home.tells(60, "order", 1, 0);
        home.tells(97 - 201, "order", 1, 2);
        home.tells(201 - 97, "order", 2, 1);
        home.tells(96, "order", 1, 3);
        home.tells(-96, "order", 3, 2);
        home.tells(-1, "order", 0, 3);
        home.makes(1, A59, "part", 1, 0, 59, 1);
        home.tells(-1, "order", 1, 2);
        home.tells(1, "order", 2, 1);
    }

    private static void orderNoText() {
        Home home = Home.of("ab", "", "", "b");
        home.tells(-1, "order", 0, 3);
        home.tells(1, "order", 3, 0);
        refusesNoPair("order");
    }

    private static void orderLikeTells() {
        Home home = Home.of("", A60, A59 + "\311", "\001");
        home.tells(0, "orderLike", 0, 0);
        home.tells(-1, "orderLike", 0, 1);
        home.tells(1, "orderLike", 1, 0);
        home.tells(-1, "orderLike", 1, 2);
        home.tells(1, "orderLike", 2, 1);
        home.tells(1, "orderLike", 1, 3);
        home.tells(-1, "orderLike", 3, 2);
        Home like = Home.of(A60, A59 + "A", A59 + "B", A59);
        like.tells(0, "orderLike", 0, 1);
        like.tells(0, "orderLike", 1, 0);
        like.tells(-1, "orderLike", 0, 2);
        like.tells(1, "orderLike", 2, 0);
        like.tells(1, "orderLike", 1, 3);
        like.tells(-1, "orderLike", 3, 1);
    }

    private static void orderLikeNoText() {
        Home home = Home.of("aB", "", "", "B");
        home.tells(-1, "orderLike", 0, 3);
        home.tells(1, "orderLike", 3, 0);
        refusesNoPair("orderLike");
    }

    // ---- 39 to 42: what is asked of row and pieces

    private static void rowTells() {
        Home home = Home.ofRow(A60, "", Home.SIGNS);
        home.tells(A60, "row");
        home.laysRow("", 0);
        home.tells("", "row");
        home.laysRow(Home.SIGNS, 1);
        home.tells(Home.SIGNS, "row");
        home.setsRow("A" + Home.SIGNS.substring(1), 97, 0, 4);
        home.clears(1);
        home.tells("A" + Home.SIGNS.substring(1), "row");
        new Home().tells("", "row");
    }

    private static void rowAtTells() {
        Home home = Home.ofRow("a\001\311");
        home.tells(97, "rowAt", 0);
        home.tells(1, "rowAt", 1);
        home.tells(201, "rowAt", 2);
        home.setsRow("a\001\240", 201, 2, 21);
        home.tells(160, "rowAt", 2);
    }

    private static void rowAtNoPlace() {
        Home home = Home.ofRow("abc", "", "a");
        home.tells(97, "rowAt", 0);
        home.tells(99, "rowAt", 2);
        for (int place : new int[] {-1, 3, 4, 60, MIN, MAX}) {
            home.refuses(OUT, "rowAt", place);
        }
        home.laysRow("a", 1);
        home.refuses(OUT, "rowAt", 1);
        home.laysRow("", 0);
        home.refuses(OUT, "rowAt", 0);
        new Home().refuses(OUT, "rowAt", 0);
        Home full = Home.ofRow(A59 + "b");
        full.tells(98, "rowAt", 59);
        full.refuses(OUT, "rowAt", 60);
    }

    private static void pieceTells() {
        Home home = Home.ofCut(",ab,,\311", A60, "");
        home.tells("", "piece", 0);
        home.tells("ab", "piece", 1);
        home.tells("", "piece", 2);
        home.tells("\311", "piece", 3);
        home.cuts(0, A60);
        home.tells(A60, "piece", 0);
        home.cuts(1, "");
        home.tells("", "piece", 0);
        home.makes(0, A58, "tail", 0, 2, 0);
        home.tells("", "piece", 0);
    }

    private static void pieceNotThere() {
        Home home = Home.ofCut("a,b,c", "x", ",", "");
        home.tells("a", "piece", 0);
        home.tells("c", "piece", 2);
        for (int piece : new int[] {-1, 3, 4, 60, 61, MIN, MAX}) {
            home.refuses(OUT, "piece", piece);
        }
        home.cuts(0, "x");
        home.refuses(OUT, "piece", 1);
        home.cuts(1);
        home.refuses(OUT, "piece", 0);
        home.cuts(2, "");
        home.tells("", "piece", 0);
        home.refuses(OUT, "piece", 1);
        new Home().refuses(OUT, "piece", 0);
        Home most = Home.ofCut(many(",", 59) + "b");
        most.tells("b", "piece", 59);
        most.tells("", "piece", 58);
        most.refuses(OUT, "piece", 60);
    }

    private static void isPieceTells() {
        Home home = Home.ofCut("a,,ab", "a", "", "ab", "A");
        home.tells(true, "isPiece", 0, 0);
        home.tells(false, "isPiece", 0, 1);
        home.tells(false, "isPiece", 0, 2);
        home.tells(false, "isPiece", 0, 3);
        home.tells(true, "isPiece", 1, 1);
        home.tells(false, "isPiece", 1, 0);
        home.tells(true, "isPiece", 2, 2);
        home.tells(false, "isPiece", 2, 0);
        home.clears(0);
        home.tells(false, "isPiece", 0, 0);
        home.tells(true, "isPiece", 1, 0);
        Home full = Home.ofCut(A60, A60, A59, A59 + "b");
        full.tells(true, "isPiece", 0, 0);
        full.tells(false, "isPiece", 0, 1);
        full.tells(false, "isPiece", 0, 2);
    }

    private static void isPieceNotThere() {
        Home home = Home.ofCut("a,b,c", "c", ",");
        home.tells(false, "isPiece", 0, 0);
        home.tells(true, "isPiece", 2, 0);
        for (int piece : new int[] {-1, 3, 4, MIN, MAX}) {
            home.refuses(OUT, "isPiece", piece, 0);
            home.refuses(OUT, "isPiece", piece, 2);
        }
        home.cuts(1);
        home.refuses(OUT, "isPiece", 0, 0);
        home.refuses(OUT, "isPiece", 0, 2);
        new Home().refuses(OUT, "isPiece", 0, 0);
    }

    private static void isPieceNoText() {
        Home home = Home.ofCut("a,b", "a", "", "", "b");
        home.tells(true, "isPiece", 0, 0);
        home.tells(true, "isPiece", 1, 3);
        refusesNoText(1, "isPiece", 0, 0);
        refusesNoText(1, "isPiece", 2, 0);
    }

    // ---- 43 to 45: the whole house

    private static void houseTellsEach() {
        Home home = new Home();
        for (int what = 0; what <= 4; what++) {
            home.tells(what == 3 ? 4 : 0, "house", what);
        }
        Home full = Home.ofRow(A60, A60, A60, A60, A60);
        int[] wanted = {60, 3, 240, 0, 1};
        for (int what = 0; what <= 4; what++) {
            full.tells(wanted[what], "house", what);
        }
        Home some = Home.of("a,b,", " ");
        some.cuts(0, "a", "b");
        some.laysRow(" ", 1);
        some.knocks();
        int[] others = {1, 2, 5, 2, 2};
        for (int what = 0; what <= 4; what++) {
            some.tells(others[what], "house", what);
        }
        some.clears(1);
        some.tells(4, "house", 2);
        some.tells(3, "house", 3);
        some.laysRow("", 1);
        some.tells(0, "house", 0);
    }

    private static void houseNoSuchThing() {
        Home home = Home.of("ab");
        home.tells(3, "house", 0);
        home.tells(1, "house", 4);
        for (int what : new int[] {-1, 5, 6, MIN, MAX}) {
            home.refuses(ARGUMENT, "house", what);
        }
    }

    private static final String[][] HOUSES = {
        {}, {"a", "a", "a", "a"}, {A60, A60, A59, A59 + "A"}, {many(",", 60), ",", ",,", ",a"},
        {many(" ", 60), " \001 ", "\034\t\n ", "\240"}, {"xBacAA, ", "", "\001", "x07a1\t\t."},
        {"-0-aAaa\311", "-0-aAbA\351", "\311", "\351"}, {many("a,", 30), many(",a", 30), "a,", ",a"},
    };

    private static void soundWhateverStands() {
        for (String[] texts : HOUSES) {
            Home home = Home.of(texts);
            home.tells(true, "isSound");
            home.laysRow(texts.length > 0 ? texts[0] : "", 0);
            home.tells(true, "isSound");
            home.refuses(OUT, "clear", 4);
            home.tells(true, "isSound");
        }
        new Home().tells(true, "isSound");
        Home letters = new Home();
        letters.makes(0, "false", "truth", 0, false, false);
        letters.makes(1, "-2147483648", "number", 1, MIN, false);
        letters.tells(true, "isSound");
    }

    private static void digestOfAll() {
        for (String[] texts : HOUSES) {
            // Each call of the home holds the digest against what it must be.
            Home home = Home.of(texts);
            home.knocks();
            home.laysRow(texts.length > 0 ? texts[0] : "", 0);
            home.clears(3);
        }
        Home pieces = Home.ofCut(many(",", 59) + "b");
        pieces.knocks();
        new Home().knocks();
    }

    private static void digestFrom6173() {
        // With nothing but knocks in the house; some of these numbers are below 0.
        for (int knocks = 0; knocks < 20; knocks++) {
            Home home = new Home();
            home.knocksUnasked(knocks);
            home.tells(digestOfEmptyTexts(knocks), "digest");
        }
    }

    private static long digestOfEmptyTexts(int knocks) {
        long sum = 6173;
        for (int value : new int[] {0, 0, 0, 4, knocks}) {
            sum = sum * 31 + value;
        }
        for (int text = 0; text < 4; text++) {
            for (int value : new int[] {0, 0, 1, 0, 0}) {
                sum = sum * 31 + value;
            }
        }
        for (int pair = 0; pair < 16; pair++) {
            for (int value : new int[] {0, 0, 0, 0, 1}) {
                sum = sum * 31 + value;
            }
        }
        return sum * 31 + 1;
    }

    private static void makingCalls(Sentences s) {
        s.chapter("Promise 1");
        s.test("Creates a house with empty texts.", CallsBoundariesTest::newOne);
        s.chapter("Promise 2");
        s.test("SIGNS come behind a TEXT, one after the other.", CallsBoundariesTest::putBehind);
        s.test("- `a`: a SIGN, or NONE for nothing", () -> putAt(1));
        s.test("- `b`: likewise", () -> putAt(2));
        s.test("- `c`: likewise", () -> putAt(3));
        s.test("- `d`: likewise", () -> putAt(4));
        s.test("- `e`: likewise", () -> putAt(5));
        s.test("Returns how long it is then.", CallsBoundariesTest::putTellsHowLong);
        s.test("if there is no such TEXT", CallsBoundariesTest::putNoText);
        s.test("if one is not NONE to 23", CallsBoundariesTest::putNoSign);
        s.test("if it would be longer than 60", CallsBoundariesTest::putTooLong);
        s.chapter("Promise 3");
        s.test("A TEXT is empty then.", CallsBoundariesTest::clearEmpties);
        s.test("Returns how long it was.", CallsBoundariesTest::clearTellsHowLongItWas);
        s.test("if there is no such TEXT", CallsBoundariesTest::clearNoText);
        s.chapter("Promise 4");
        s.test("A TEXT becomes another one.", CallsBoundariesTest::copyBecomes);
        s.test("Returns how long it is.", CallsBoundariesTest::copyTellsHowLong);
        s.test("if there is no such TEXT as text or into", CallsBoundariesTest::copyNoText);
        s.chapter("Promise 5");
        s.test("- `to`: the place behind its last one", CallsBoundariesTest::partBehindLast);
        s.test("Returns how long it is.", CallsBoundariesTest::partTellsHowLong);
        s.test("if there is no such TEXT as text or into", CallsBoundariesTest::partNoText);
        s.test("from is below 0", CallsBoundariesTest::partFromBelow0);
        s.test("to is less than from", CallsBoundariesTest::partToLessThanFrom);
        s.test("or above how long the TEXT is", CallsBoundariesTest::partAboveEnd);
        s.chapter("Promise 6");
        s.test("Returns how long it is.", CallsBoundariesTest::tailTellsHowLong);
        s.test("if there is no such TEXT as text or into", CallsBoundariesTest::tailNoText);
        s.test("or from is below 0", CallsBoundariesTest::tailFromBelow0);
        s.test("or above how long the TEXT is", CallsBoundariesTest::tailAboveEnd);
        s.chapter("Promise 7");
        s.test("Returns how long it is.", CallsBoundariesTest::joinTellsHowLong);
        s.test("if there is no such TEXT as one, other or into", CallsBoundariesTest::joinNoText);
        s.test("if it would be longer than 60", CallsBoundariesTest::joinTooLong);
        s.chapter("Promise 8");
        s.test("Returns how long it is.", CallsBoundariesTest::timesTellsHowLong);
        s.test("if there is no such TEXT as text or into", CallsBoundariesTest::timesNoText);
        s.test("if many is not 0 to 60", CallsBoundariesTest::timesNoSuchMany);
        s.test("if it would be longer than 60", CallsBoundariesTest::timesTooLong);
        s.chapter("Promise 9");
        s.test("Returns how long it is.", CallsBoundariesTest::trimTellsHowLong);
        s.test("if there is no such TEXT as text or into", CallsBoundariesTest::trimNoText);
        s.chapter("Promise 10");
        s.test("Returns how long it is then.", CallsBoundariesTest::numberTellsHowLong);
        s.test("if there is no such TEXT", CallsBoundariesTest::numberNoText);
        s.test("if it would be longer than 60", CallsBoundariesTest::numberTooLong);
        s.chapter("Promise 11");
        s.test("high * 2^32 and low (low taken as 0 to 2^32 - 1), in 64 digits of two", CallsBoundariesTest::greatOfHalves);
        s.test("Returns how long it is then.", CallsBoundariesTest::greatTellsHowLong);
        s.test("if there is no such TEXT", CallsBoundariesTest::greatNoText);
        s.test("if it would be longer than 60", CallsBoundariesTest::greatTooLong);
        s.chapter("Promise 12");
        s.test("Returns how long it is then.", CallsBoundariesTest::truthTellsHowLong);
        s.test("if there is no such TEXT", CallsBoundariesTest::truthNoText);
        s.test("if it would be longer than 60", CallsBoundariesTest::truthTooLong);
        s.chapter("Promise 13");
        s.test("Returns how long it is then.", CallsBoundariesTest::aheadTellsHowLong);
        s.test("if there is no such TEXT", CallsBoundariesTest::aheadNoText);
        s.test("if sign is not 0 to 23", CallsBoundariesTest::aheadNoSign);
        s.test("if it would be longer than 60", CallsBoundariesTest::aheadTooLong);
        s.chapter("Promise 14");
        s.test("Returns how long it is then.", CallsBoundariesTest::knownTellsHowLong);
        s.test("if there is no such TEXT", CallsBoundariesTest::knownNoText);
        s.test("if known is not 0 to 6", CallsBoundariesTest::knownNotThere);
        s.test("if it would be longer than 60", CallsBoundariesTest::knownTooLong);
    }

    private static void callsOfRowAndPieces(Sentences s) {
        s.chapter("Promise 15");
        s.test("Returns how long it is.", CallsBoundariesTest::layTellsHowLong);
        s.test("if there is no such TEXT", CallsBoundariesTest::layNoText);
        s.chapter("Promise 16");
        s.test("Returns the CODE of what was there.", CallsBoundariesTest::setTellsWhatWasThere);
        s.test("if the ROW has no such place", CallsBoundariesTest::setNoPlace);
        s.test("if sign is not 0 to 23", CallsBoundariesTest::setNoSign);
        s.chapter("Promise 17");
        s.test("Returns how long it is.", CallsBoundariesTest::takeTellsHowLong);
        s.test("if there is no such TEXT", CallsBoundariesTest::takeNoText);
        s.chapter("Promise 18");
        s.test("Returns how long it is.", CallsBoundariesTest::takePartTellsHowLong);
        s.test("if there is no such TEXT", CallsBoundariesTest::takePartNoText);
        s.test("from or many is below 0", CallsBoundariesTest::takePartBelow0);
        s.test("both together are above how long the ROW is", CallsBoundariesTest::takePartAboveEnd);
        s.chapter("Promise 19");
        s.test("Returns how many there are.", CallsBoundariesTest::cutTellsHowMany);
        s.test("if there is no such TEXT", CallsBoundariesTest::cutNoText);
        s.chapter("Promise 20");
        s.test("Returns how long it is.", CallsBoundariesTest::takePieceTellsHowLong);
        s.test("if there is no such PIECE", CallsBoundariesTest::takePieceNotThere);
        s.test("or no such TEXT", CallsBoundariesTest::takePieceNoText);
        s.chapter("Promise 21");
        s.test("Returns how often one knocked, with this.", CallsBoundariesTest::knockTellsHowOften);
    }

    private static void callsOfOneText(Sentences s) {
        s.chapter("Promise 22");
        s.test("Returns it.", CallsBoundariesTest::textTellsIt);
        s.test("if there is no such TEXT", CallsBoundariesTest::textNoText);
        s.chapter("Promise 23");
        s.test("Returns how long it is.", CallsBoundariesTest::lengthTells);
        s.test("if there is no such TEXT", CallsBoundariesTest::lengthNoText);
        s.chapter("Promise 24");
        s.test("Returns the CODE of the SIGN there.", CallsBoundariesTest::atTellsCode);
        s.test("if there is no such TEXT", CallsBoundariesTest::atNoText);
        s.test("or no such place in it", CallsBoundariesTest::atNoPlace);
        s.chapter("Promise 25");
        s.test("Returns whether it has no SIGN.", CallsBoundariesTest::isEmptyTells);
        s.test("if there is no such TEXT", CallsBoundariesTest::isEmptyNoText);
        s.chapter("Promise 26");
        s.test("Returns whether it is BLANK.", CallsBoundariesTest::isBlankTells);
        s.test("if there is no such TEXT", CallsBoundariesTest::isBlankNoText);
        s.chapter("Promise 27");
        s.test("Returns HASH.", CallsBoundariesTest::hashTells);
        s.test("if there is no such TEXT", CallsBoundariesTest::hashNoText);
        s.chapter("Promise 28");
        s.test("Returns the first place at which it stands; NONE.", CallsBoundariesTest::firstTells);
        s.test("if there is no such TEXT", CallsBoundariesTest::firstNoText);
        s.test("if sign is not 0 to 23", CallsBoundariesTest::firstNoSign);
        s.chapter("Promise 29");
        s.test("Returns the last place at which it stands; NONE.", CallsBoundariesTest::lastTells);
        s.test("if there is no such TEXT", CallsBoundariesTest::lastNoText);
        s.test("if sign is not 0 to 23", CallsBoundariesTest::lastNoSign);
        s.chapter("Promise 30");
        s.test("Returns the first place, from that on, at which it stands; NONE.", CallsBoundariesTest::nextTells);
        s.test("if there is no such TEXT", CallsBoundariesTest::nextNoText);
        s.test("or from is below 0, or above how long it is", CallsBoundariesTest::nextFromBelow0OrAboveEnd);
        s.test("if sign is not 0 to 23", CallsBoundariesTest::nextNoSign);
        s.chapter("Promise 31");
        s.test("Returns whether that is so.", CallsBoundariesTest::beginsTells);
        s.test("if there is no such TEXT", CallsBoundariesTest::beginsNoText);
        s.test("if known is not 0 to 6", CallsBoundariesTest::beginsNotKnown);
        s.chapter("Promise 32");
        s.test("it stands at none that is below 0, or above how long the TEXT is",
            CallsBoundariesTest::standsNotBelow0OrAboveEnd);
        s.test("if there is no such TEXT", CallsBoundariesTest::standsNoText);
        s.test("if known is not 0 to 6", CallsBoundariesTest::standsNotKnown);
    }

    private static void callsOfTwoTexts(Sentences s) {
        s.chapter("Promise 33");
        s.test("Returns FIRST place of the second one in the first one.", CallsBoundariesTest::firstOfTells);
        s.test("if there is no such TEXT as text or other", CallsBoundariesTest::firstOfNoText);
        s.chapter("Promise 34");
        s.test("Returns LAST place of the second one in the first one.", CallsBoundariesTest::lastOfTells);
        s.test("if there is no such TEXT as text or other", CallsBoundariesTest::lastOfNoText);
        s.chapter("Promise 35");
        s.test("Returns whether the second one is IN the first one.", CallsBoundariesTest::isInTells);
        s.test("if there is no such TEXT as text or other", CallsBoundariesTest::isInNoText);
        s.chapter("Promise 36");
        s.test("Returns whether both are the SAME (LIKE).", CallsBoundariesTest::isSameTells);
        s.test("if there is no such TEXT as text or other", CallsBoundariesTest::isSameNoText);
        s.chapter("Promise 37");
        s.test("Returns ORDER.", CallsBoundariesTest::orderTells);
        s.test("if there is no such TEXT as text or other", CallsBoundariesTest::orderNoText);
        s.chapter("Promise 38");
        s.test("Returns ORDER without CAPITALS.", CallsBoundariesTest::orderLikeTells);
        s.test("if there is no such TEXT as text or other", CallsBoundariesTest::orderLikeNoText);
    }

    private static void callsOfTheHouse(Sentences s) {
        s.chapter("Promise 39");
        s.test("Returns the SIGNS of the ROW, as a text.", CallsBoundariesTest::rowTells);
        s.chapter("Promise 40");
        s.test("Returns the CODE of what is there in the ROW.", CallsBoundariesTest::rowAtTells);
        s.test("if the ROW has no such place", CallsBoundariesTest::rowAtNoPlace);
        s.chapter("Promise 41");
        s.test("Returns it.", CallsBoundariesTest::pieceTells);
        s.test("if there is no such PIECE", CallsBoundariesTest::pieceNotThere);
        s.chapter("Promise 42");
        s.test("Returns whether that PIECE is the SAME as that TEXT.", CallsBoundariesTest::isPieceTells);
        s.test("if there is no such PIECE", CallsBoundariesTest::isPieceNotThere);
        s.test("or no such TEXT", CallsBoundariesTest::isPieceNoText);
        s.chapter("Promise 43");
        s.test("Returns that.", CallsBoundariesTest::houseTellsEach);
        s.test("if what is not 0 to 4", CallsBoundariesTest::houseNoSuchThing);
        s.chapter("Promise 44");
        s.test("Returns whether all of this is so", CallsBoundariesTest::soundWhateverStands);
        s.chapter("Promise 45");
        s.test("A number d starts with 6173; then d becomes d * 31 + v, which wraps around as a 64-bit integer",
            CallsBoundariesTest::digestFrom6173);
        s.test("Returns d.", CallsBoundariesTest::digestOfAll);
    }

    public static void main(String[] args) throws IOException {
        Sentences sentences = new Sentences();
        makingCalls(sentences);
        callsOfRowAndPieces(sentences);
        callsOfOneText(sentences);
        callsOfTwoTexts(sentences);
        callsOfTheHouse(sentences);
        sentences.runAll();
    }
}
