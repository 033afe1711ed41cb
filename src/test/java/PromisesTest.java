import java.lang.reflect.Constructor;
import java.lang.reflect.Method;
import java.lang.reflect.Modifier;
import java.util.Arrays;
import java.util.List;
import java.util.TreeSet;

/** One test for each promise of the document: ordinary inputs, the edges that it names, wrong inputs. */
public final class PromisesTest {
    private static final Class<?> OUT = IndexOutOfBoundsException.class;
    private static final Class<?> ARGUMENT = IllegalArgumentException.class;
    private static final Class<?> STATE = IllegalStateException.class;
    private static final int MIN = Integer.MIN_VALUE;
    private static final int MAX = Integer.MAX_VALUE;
    private static final int[] CODES = {
        97, 98, 99, 120, 65, 66, 67, 88, 48, 49, 55, 57, 44, 46, 45, 95, 32, 9, 10, 1, 28, 160, 233, 201
    };
    private static final int[] NO_TEXT = {-1, 4, 5, MIN, MAX};
    private static final int[] NO_SIGN = {-1, 24, 25, MIN, MAX};
    private static final int[] NO_KNOWN = {-1, 7, 8, MIN, MAX};

    private static int wrong = 0;
    private static String promise = "";

    private interface Call {
        Object answer();
    }

    private static void due(String call, Object got, Object want) {
        if (!want.equals(got)) {
            wrong++;
            System.out.println("promise " + promise + ": " + call + " answered " + got + ", due is " + want);
        }
    }

    /** The call throws just that, and changes nothing; digest tells so in one call, as an object has but 512. */
    private static void refused(Signtext x, String name, Class<?> kind, Call call) {
        long before = x.digest();
        try {
            due(name, call.answer(), kind.getName());
        } catch (RuntimeException thrown) {
            due(name, thrown.getClass().getName(), kind.getName());
        }
        due("digest after " + name, x.digest(), before);
    }

    private static String stateOf(Signtext x) {
        StringBuilder state = new StringBuilder();
        for (int text = 0; text < 4; text++) {
            state.append('[').append(x.text(text)).append(']');
        }
        state.append(" row [").append(x.row()).append("] pieces");
        for (int piece = 0; piece < x.house(1); piece++) {
            state.append('[').append(x.piece(piece)).append(']');
        }
        return state.append(" knocks ").append(x.house(4)).toString();
    }

    private static int signOf(char code) {
        for (int sign = 0; sign < CODES.length; sign++) {
            if (CODES[sign] == code) {
                return sign;
            }
        }
        throw new AssertionError("no sign has the code " + (int) code);
    }

    /** A house whose texts 0, 1 .. are these. */
    private static Signtext houseOf(String... texts) {
        Signtext x = new Signtext();
        for (int text = 0; text < texts.length; text++) {
            for (int place = 0; place < texts[text].length(); place += 5) {
                int[] five = new int[5];
                for (int step = 0; step < 5; step++) {
                    five[step] = place + step < texts[text].length() ? signOf(texts[text].charAt(place + step)) : -1;
                }
                x.put(text, five[0], five[1], five[2], five[3], five[4]);
            }
        }
        return x;
    }

    private static String many(String part, int times) {
        return part.repeat(times);
    }

    private static void p1() {
        Signtext x = new Signtext();
        for (int text = 0; text < 4; text++) {
            due("text(" + text + ")", x.text(text), "");
        }
        due("state", stateOf(x), "[][][][] row [] pieces knocks 0");
        x.put(0, 0, 0, 0, 0, 0);
        due("text of another house", new Signtext().text(0), "");
    }

    private static void p2() {
        Signtext x = new Signtext();
        due("put", x.put(0, 0, 1, 2, 3, 4), 5);
        due("text", x.text(0), "abcxA");
        due("put", x.put(0, -1, 5, -1, 6, -1), 7);
        due("text", x.text(0), "abcxABC");
        due("put of nothing", x.put(0, -1, -1, -1, -1, -1), 7);
        due("put", x.put(3, 23, -1, -1, -1, 22), 2);
        due("text", x.text(3), "\311\351");
        due("others", x.text(1) + x.text(2), "");
        for (int sign = 0; sign < 24; sign++) {
            Signtext one = new Signtext();
            one.put(1, -1, -1, sign, -1, -1);
            due("text of sign " + sign, one.text(1), String.valueOf((char) CODES[sign]));
        }
        putRefused();
    }

    private static void putRefused() {
        Signtext x = houseOf(many("a", 57));
        for (int text : NO_TEXT) {
            refused(x, "put(" + text + ")", OUT, () -> x.put(text, 24, 0, 0, 0, 0));
        }
        for (int sign : new int[] {-2, 24, MIN, MAX}) {
            refused(x, "put a " + sign, ARGUMENT, () -> x.put(0, sign, 0, 0, 0, 0));
            refused(x, "put b " + sign, ARGUMENT, () -> x.put(0, 0, sign, 0, 0, 0));
            refused(x, "put c " + sign, ARGUMENT, () -> x.put(0, 0, 0, sign, 0, 0));
            refused(x, "put d " + sign, ARGUMENT, () -> x.put(0, 0, 0, 0, sign, 0));
            refused(x, "put e " + sign, ARGUMENT, () -> x.put(0, 0, 0, 0, 0, sign));
        }
        refused(x, "put four", STATE, () -> x.put(0, 0, 0, 0, 0, -1));
        due("put three", x.put(0, -1, 0, 0, -1, 0), 60);
        due("put none", x.put(0, -1, -1, -1, -1, -1), 60);
        refused(x, "put one", STATE, () -> x.put(0, -1, -1, -1, -1, 0));
    }

    private static void p3() {
        Signtext x = houseOf("abc", "x");
        due("clear", x.clear(0), 3);
        due("state", stateOf(x), "[][x][][] row [] pieces knocks 0");
        due("clear", x.clear(0), 0);
        for (int text : NO_TEXT) {
            refused(x, "clear(" + text + ")", OUT, () -> x.clear(text));
        }
    }

    private static void p4() {
        Signtext x = houseOf("abc", "x", "");
        due("copy", x.copy(0, 1), 3);
        due("text", x.text(1), "abc");
        due("copy", x.copy(0, 0), 3);
        due("text", x.text(0), "abc");
        x.put(0, 0, -1, -1, -1, -1);
        due("the copied one", x.text(1), "abc");
        due("copy", x.copy(2, 1), 0);
        due("text", x.text(1), "");
        for (int text : NO_TEXT) {
            refused(x, "copy(" + text + ", 0)", OUT, () -> x.copy(text, 0));
            refused(x, "copy(0, " + text + ")", OUT, () -> x.copy(0, text));
        }
    }

    private static void p5() {
        Signtext x = houseOf("abcxA", "x");
        due("part", x.part(0, 1, 4, 1), 3);
        due("text", x.text(1), "bcx");
        due("part, whole", x.part(0, 0, 5, 2), 5);
        due("text", x.text(2), "abcxA");
        due("part, empty at the end", x.part(0, 5, 5, 2), 0);
        due("part, empty at the beginning", x.part(0, 0, 0, 2), 0);
        due("part into itself", x.part(0, 2, 5, 0), 3);
        due("text", x.text(0), "cxA");
        due("part of an empty one", x.part(2, 0, 0, 1), 0);
        for (int text : NO_TEXT) {
            refused(x, "part(" + text + ", ..)", OUT, () -> x.part(text, 0, 0, 0));
            refused(x, "part(.., " + text + ")", OUT, () -> x.part(0, 0, 0, text));
        }
        int[][] places = {{-1, 2}, {2, 1}, {0, 4}, {3, 4}, {4, 4}, {MIN, 0}, {0, MAX}, {MAX, MAX}, {0, MIN}, {-2, -1}};
        for (int[] pair : places) {
            refused(x, "part from " + pair[0] + " to " + pair[1], OUT, () -> x.part(0, pair[0], pair[1], 3));
        }
    }

    private static void p6() {
        Signtext x = houseOf("abcx");
        due("tail", x.tail(0, 1, 1), 3);
        due("text", x.text(1), "bcx");
        due("tail, whole", x.tail(0, 0, 2), 4);
        due("text", x.text(2), "abcx");
        due("tail, empty", x.tail(0, 4, 2), 0);
        due("text", x.text(2), "");
        due("tail into itself", x.tail(0, 2, 0), 2);
        due("text", x.text(0), "cx");
        for (int text : NO_TEXT) {
            refused(x, "tail(" + text + ", ..)", OUT, () -> x.tail(text, 0, 0));
            refused(x, "tail(.., " + text + ")", OUT, () -> x.tail(0, 0, text));
        }
        for (int from : new int[] {-1, 3, MIN, MAX}) {
            refused(x, "tail from " + from, OUT, () -> x.tail(0, from, 1));
        }
    }

    private static void p7() {
        Signtext x = houseOf("ab", "cx", "A");
        due("join", x.join(0, 1, 2), 4);
        due("text", x.text(2), "abcx");
        due("join into the first", x.join(0, 1, 0), 4);
        due("text", x.text(0), "abcx");
        due("join into the second", x.join(0, 1, 1), 6);
        due("text", x.text(1), "abcxcx");
        due("join of one with itself into it", x.join(1, 1, 1), 12);
        due("text", x.text(1), "abcxcxabcxcx");
        due("join with an empty one", x.join(3, 0, 3), 4);
        Signtext full = houseOf(many("a", 30), many("b", 31));
        due("join to 60", full.join(0, 0, 2), 60);
        refused(full, "join to 61", STATE, () -> full.join(0, 1, 2));
        refused(full, "join to 61", STATE, () -> full.join(1, 0, 1));
        for (int text : NO_TEXT) {
            refused(full, "join(" + text + ", ..)", OUT, () -> full.join(text, 1, 1));
            refused(full, "join(.., " + text + ", ..)", OUT, () -> full.join(1, text, 1));
            refused(full, "join(.., " + text + ")", OUT, () -> full.join(1, 1, text));
        }
    }

    private static void p8() {
        Signtext x = houseOf("abc", "x", "");
        due("times", x.times(0, 3, 1), 9);
        due("text", x.text(1), "abcabcabc");
        due("times 1", x.times(0, 1, 1), 3);
        due("text", x.text(1), "abc");
        due("times 0", x.times(0, 0, 1), 0);
        due("times into itself", x.times(0, 2, 0), 6);
        due("text", x.text(0), "abcabc");
        due("times to 60", x.times(0, 10, 3), 60);
        due("an empty one 60 times", x.times(2, 60, 1), 0);
        refused(x, "times to 66", STATE, () -> x.times(0, 11, 3));
        refused(x, "60 times 60", STATE, () -> x.times(3, 60, 1));
        for (int many : new int[] {-1, 61, MIN, MAX}) {
            refused(x, "times " + many, ARGUMENT, () -> x.times(0, many, 1));
            refused(x, "an empty one times " + many, ARGUMENT, () -> x.times(2, many, 1));
        }
        for (int text : NO_TEXT) {
            refused(x, "times(" + text + ", ..)", OUT, () -> x.times(text, 61, 0));
            refused(x, "times(.., " + text + ")", OUT, () -> x.times(0, -1, text));
        }
    }

    private static void p9() {
        Signtext x = houseOf(" \t\n\001\034a \001b\034\001\n\t ");
        due("trim", x.trim(0, false, 1), 4);
        due("text", x.text(1), "a \001b");
        due("strip", x.trim(0, true, 2), 8);
        due("text", x.text(2), "\001\034a \001b\034\001");
        due("trim into itself", x.trim(0, false, 0), 4);
        due("text", x.text(0), "a \001b");
        Signtext low = houseOf("\001 \001", " \n\034\t", "\240 a \240", "\034\001");
        due("trim all that is LOW", low.trim(0, false, 0), 0);
        due("strip all that is WHITE", low.trim(1, true, 1), 0);
        due("the sign 160 stays when trimmed", low.trim(2, false, 0), 5);
        due("the sign 160 stays when stripped", low.trim(2, true, 0), 5);
        due("the sign 28 goes when stripped", low.trim(3, true, 0), 1);
        due("trim of an empty one", low.trim(1, false, 0), 0);
        for (int text : NO_TEXT) {
            refused(low, "trim(" + text + ", ..)", OUT, () -> low.trim(text, false, 2));
            refused(low, "trim(.., " + text + ")", OUT, () -> low.trim(2, true, text));
        }
    }

    private static void p10() {
        for (int number : new int[] {0, 1, -1, 9, 10, -10, 100, 101, 2345678, -99, 1000000000, MAX, MIN, MIN + 1}) {
            Signtext x = houseOf("a", "b");
            String digits = Integer.toString(number);
            due("number " + number, x.number(0, number, false), 1 + digits.length());
            due("text", x.text(0), "a" + digits);
            due("number ahead " + number, x.number(1, number, true), 1 + digits.length());
            due("text", x.text(1), digits + "b");
        }
        Signtext full = houseOf(many("a", 57));
        refused(full, "number to 61", STATE, () -> full.number(0, 1000, false));
        refused(full, "number ahead to 61", STATE, () -> full.number(0, -100, true));
        due("number to 60", full.number(0, -10, false), 60);
        refused(full, "number to 61", STATE, () -> full.number(0, 0, true));
        for (int text : NO_TEXT) {
            refused(full, "number(" + text + ")", OUT, () -> full.number(text, 0, true));
        }
    }

    private static void p11() {
        int[] halves = {0, 1, -1, 9, 10, 2, 232, 1000000000, 2147483647, MIN, MAX, -2, 1410065408};
        for (int high : halves) {
            for (int low : halves) {
                Signtext x = houseOf("a");
                String digits = Long.toString(high * 4294967296L + (low & 4294967295L));
                due("great " + high + ", " + low, x.great(0, high, low), 1 + digits.length());
                due("text", x.text(0), "a" + digits);
            }
        }
        Signtext full = houseOf(many("a", 41));
        refused(full, "great to 61", STATE, () -> full.great(0, MIN, 0));
        due("great to 60", full.great(0, MAX, -1), 60);
        refused(full, "great to 61", STATE, () -> full.great(0, 0, 0));
        for (int text : NO_TEXT) {
            refused(full, "great(" + text + ")", OUT, () -> full.great(text, 0, 0));
        }
    }

    private static void p12() {
        Signtext x = houseOf("a", "b");
        due("truth", x.truth(0, true, false), 5);
        due("text", x.text(0), "atrue");
        due("truth", x.truth(0, false, true), 10);
        due("text", x.text(0), "falseatrue");
        due("truth", x.truth(1, true, true), 5);
        due("truth", x.truth(1, false, false), 10);
        due("text", x.text(1), "truebfalse");
        Signtext full = houseOf(many("a", 56));
        refused(full, "truth to 61", STATE, () -> full.truth(0, false, false));
        refused(full, "truth ahead to 61", STATE, () -> full.truth(0, false, true));
        due("truth to 60", full.truth(0, true, true), 60);
        refused(full, "truth to 64", STATE, () -> full.truth(0, true, false));
        for (int text : NO_TEXT) {
            refused(full, "truth(" + text + ")", OUT, () -> full.truth(text, true, true));
        }
    }

    private static void p13() {
        for (int sign = 0; sign < 24; sign++) {
            Signtext x = houseOf("ab");
            due("ahead", x.ahead(0, sign), 3);
            due("text", x.text(0), (char) CODES[sign] + "ab");
        }
        Signtext x = houseOf(many("a", 59));
        due("ahead to 60", x.ahead(0, 3), 60);
        refused(x, "ahead to 61", STATE, () -> x.ahead(0, 3));
        for (int sign : NO_SIGN) {
            refused(x, "ahead of a full one, sign " + sign, ARGUMENT, () -> x.ahead(0, sign));
        }
        for (int text : NO_TEXT) {
            refused(x, "ahead(" + text + ")", OUT, () -> x.ahead(text, 24));
        }
    }

    private static void p14() {
        String[] knowns = {"", "a", "ab", "A", ",", "x.x", "aB-1"};
        for (int known = 0; known < 7; known++) {
            Signtext x = houseOf("xb");
            due("known " + known, x.known(0, known), 2 + knowns[known].length());
            due("text", x.text(0), "xb" + knowns[known]);
        }
        Signtext x = houseOf(many("a", 57));
        refused(x, "known to 61", STATE, () -> x.known(0, 6));
        due("known to 60", x.known(0, 5), 60);
        due("known empty", x.known(0, 0), 60);
        for (int known : NO_KNOWN) {
            refused(x, "known " + known, ARGUMENT, () -> x.known(0, known));
        }
        for (int text : NO_TEXT) {
            refused(x, "known(" + text + ")", OUT, () -> x.known(text, 7));
        }
    }

    private static void p15() {
        Signtext x = houseOf("abc", "");
        due("lay", x.lay(0), 3);
        due("row", x.row(), "abc");
        due("text", x.text(0), "abc");
        x.set(0, 3);
        due("text after the row changed", x.text(0), "abc");
        x.clear(0);
        due("row after the text changed", x.row(), "xbc");
        refusedLays(x);
        due("lay of an empty one", x.lay(1), 0);
        due("row", x.row(), "");
    }

    private static void refusedLays(Signtext x) {
        for (int text : NO_TEXT) {
            refused(x, "lay(" + text + ")", OUT, () -> x.lay(text));
        }
    }

    private static void p16() {
        Signtext x = houseOf("ab\351");
        refused(x, "set in an empty row", OUT, () -> x.set(0, 0));
        x.lay(0);
        due("set", x.set(0, 23), 97);
        due("set", x.set(2, 19), 233);
        due("row", x.row(), "\311b\001");
        due("set", x.set(0, 0), 201);
        due("row", x.row(), "ab\001");
        for (int place : new int[] {-1, 3, MIN, MAX}) {
            refused(x, "set at " + place, OUT, () -> x.set(place, 24));
        }
        for (int sign : NO_SIGN) {
            refused(x, "set to " + sign, ARGUMENT, () -> x.set(1, sign));
        }
    }

    private static void p17() {
        Signtext x = houseOf("abc", "x");
        due("take of an empty row", x.take(1), 0);
        due("text", x.text(1), "");
        x.lay(0);
        due("take", x.take(1), 3);
        due("text", x.text(1), "abc");
        x.set(1, 7);
        due("text after the row changed", x.text(1), "abc");
        due("take", x.take(2), 3);
        due("text", x.text(2), "aXc");
        due("row", x.row(), "aXc");
        for (int text : NO_TEXT) {
            refused(x, "take(" + text + ")", OUT, () -> x.take(text));
        }
    }

    private static void p18() {
        Signtext x = houseOf("abcx");
        due("takePart of an empty row", x.takePart(1, 0, 0), 0);
        x.lay(0);
        due("takePart", x.takePart(1, 1, 2), 2);
        due("text", x.text(1), "bc");
        due("takePart, whole", x.takePart(1, 0, 4), 4);
        due("text", x.text(1), "abcx");
        due("takePart at the end", x.takePart(1, 3, 1), 1);
        due("text", x.text(1), "x");
        due("takePart, empty behind the end", x.takePart(1, 4, 0), 0);
        due("row", x.row(), "abcx");
        int[][] parts = {{-1, 0}, {-1, 2}, {0, -1}, {0, 5}, {4, 1}, {5, 0}, {5, -1}, {3, 2},
            {MAX, MAX}, {1, MAX}, {MAX, 1}, {MIN, MIN}, {2, MIN}};
        for (int[] pair : parts) {
            refused(x, "takePart " + pair[0] + ", " + pair[1], OUT, () -> x.takePart(0, pair[0], pair[1]));
        }
        for (int text : NO_TEXT) {
            refused(x, "takePart(" + text + ")", OUT, () -> x.takePart(text, 0, 0));
        }
    }

    private static void dueCut(String text, String... pieces) {
        Signtext x = houseOf(text);
        due("cut of " + text, x.cut(0), pieces.length);
        due("how many pieces of " + text, x.house(1), pieces.length);
        for (int piece = 0; piece < x.house(1) && piece < pieces.length; piece++) {
            due("piece " + piece + " of " + text, x.piece(piece), pieces[piece]);
        }
    }

    private static void p19() {
        dueCut("", "");
        dueCut(",");
        dueCut(",a,,b,,", "", "a", "", "b");
        dueCut("a", "a");
        dueCut("a,b", "a", "b");
        dueCut("a,", "a");
        dueCut(",a", "", "a");
        dueCut(many(",", 60));
        String[] most = new String[60];
        Arrays.fill(most, "");
        most[59] = "a";
        dueCut(many(",", 59) + "a", most);
        Signtext x = houseOf("a,b", "x,x,x", ",");
        x.cut(0);
        x.clear(0);
        due("a piece after its text changed", x.piece(1), "b");
        for (int text : NO_TEXT) {
            refused(x, "cut(" + text + ")", OUT, () -> x.cut(text));
        }
        due("cut again", x.cut(1), 3);
        due("piece", x.piece(2), "x");
        due("cut of commas", x.cut(2), 0);
        due("how many", x.house(1), 0);
    }

    private static void p20() {
        Signtext x = houseOf("ab,,c", "x");
        refused(x, "takePiece without a piece", OUT, () -> x.takePiece(0, 0));
        x.cut(0);
        due("takePiece", x.takePiece(0, 1), 2);
        due("text", x.text(1), "ab");
        due("takePiece into what was cut", x.takePiece(2, 0), 1);
        due("text", x.text(0), "c");
        due("takePiece, empty", x.takePiece(1, 0), 0);
        due("text", x.text(0), "");
        due("pieces", x.piece(0) + "," + x.piece(1) + "," + x.piece(2), "ab,,c");
        for (int piece : new int[] {-1, 3, MIN, MAX}) {
            refused(x, "takePiece " + piece, OUT, () -> x.takePiece(piece, 0));
        }
        for (int text : NO_TEXT) {
            refused(x, "takePiece into " + text, OUT, () -> x.takePiece(0, text));
        }
    }

    private static void p21() {
        Signtext x = houseOf("a");
        for (int knock = 1; knock <= 400; knock++) {
            due("knock", x.knock(), knock);
        }
        due("how often one knocked", x.house(4), 400);
        due("knock elsewhere", new Signtext().knock(), 1);
        due("text", x.text(0), "a");
    }

    private static void p22() {
        StringBuilder all = new StringBuilder();
        for (int code : CODES) {
            all.append((char) code);
        }
        Signtext x = houseOf(all.toString(), many("x", 60), "", "\240");
        due("text", x.text(0), all.toString());
        due("text", x.text(1), many("x", 60));
        due("text", x.text(2), "");
        due("text", x.text(3), "\240");
        String kept = x.text(0);
        x.clear(0);
        due("what was told before", kept, all.toString());
        for (int text : NO_TEXT) {
            refused(x, "text(" + text + ")", OUT, () -> x.text(text));
        }
    }

    private static void p23() {
        Signtext x = houseOf("", "a", "ab", many("b", 60));
        due("lengths", x.length(0) + " " + x.length(1) + " " + x.length(2) + " " + x.length(3), "0 1 2 60");
        for (int text : NO_TEXT) {
            refused(x, "length(" + text + ")", OUT, () -> x.length(text));
        }
    }

    private static void p24() {
        Signtext x = houseOf("a\311 ");
        due("at", x.at(0, 0) + " " + x.at(0, 1) + " " + x.at(0, 2), "97 201 32");
        x.truth(1, true, false);
        due("at", x.at(1, 0) + " " + x.at(1, 1), "116 114");
        for (int place : new int[] {-1, 3, 60, MIN, MAX}) {
            refused(x, "at " + place, OUT, () -> x.at(0, place));
        }
        x.part(0, 0, 1, 0);
        refused(x, "at a place that was cut off", OUT, () -> x.at(0, 1));
        refused(x, "at of an empty one", OUT, () -> x.at(2, 0));
        for (int text : NO_TEXT) {
            refused(x, "at(" + text + ")", OUT, () -> x.at(text, 0));
        }
    }

    private static void p25() {
        Signtext x = houseOf("", " ", "ab");
        due("isEmpty", x.isEmpty(0) + " " + x.isEmpty(1) + " " + x.isEmpty(2), "true false false");
        x.clear(2);
        due("isEmpty", x.isEmpty(2), true);
        for (int text : NO_TEXT) {
            refused(x, "isEmpty(" + text + ")", OUT, () -> x.isEmpty(text));
        }
    }

    private static void p26() {
        Signtext x = houseOf("", " \t\n\034", " \001", " \240 ");
        due("isBlank", x.isBlank(0) + " " + x.isBlank(1), "true true");
        due("isBlank", x.isBlank(2) + " " + x.isBlank(3), "false false");
        Signtext y = houseOf("a ", " a", " ", "\001");
        due("isBlank", y.isBlank(0) + " " + y.isBlank(1), "false false");
        due("isBlank", y.isBlank(2) + " " + y.isBlank(3), "true false");
        for (int text : NO_TEXT) {
            refused(x, "isBlank(" + text + ")", OUT, () -> x.isBlank(text));
        }
    }

    private static void p27() {
        Signtext x = houseOf("", "a", "ba", many("\351\311x", 20));
        due("hash", x.hash(0), 0);
        due("hash", x.hash(1), 97);
        due("hash", x.hash(2), 98 * 31 + 97);
        due("hash that wraps around", x.hash(3), many("\351\311x", 20).hashCode());
        for (int text : NO_TEXT) {
            refused(x, "hash(" + text + ")", OUT, () -> x.hash(text));
        }
    }

    private static void p28() {
        Signtext x = houseOf("bab\311", "");
        due("first", x.first(0, 0) + " " + x.first(0, 1) + " " + x.first(0, 23), "1 0 3");
        due("first", x.first(0, 2) + " " + x.first(0, 22) + " " + x.first(0, 4) + " " + x.first(1, 0), "-1 -1 -1 -1");
        refusedSigns(x);
    }

    private static void refusedSigns(Signtext x) {
        for (int sign : NO_SIGN) {
            refused(x, "first " + sign, ARGUMENT, () -> x.first(0, sign));
            refused(x, "last " + sign, ARGUMENT, () -> x.last(0, sign));
            refused(x, "next " + sign, ARGUMENT, () -> x.next(0, 0, sign));
        }
        for (int text : NO_TEXT) {
            refused(x, "first(" + text + ")", OUT, () -> x.first(text, 24));
            refused(x, "last(" + text + ")", OUT, () -> x.last(text, 24));
            refused(x, "next(" + text + ")", OUT, () -> x.next(text, 0, 24));
        }
    }

    private static void p29() {
        Signtext x = houseOf("bab\311", "");
        due("last", x.last(0, 0) + " " + x.last(0, 1) + " " + x.last(0, 23), "1 2 3");
        due("last", x.last(0, 2) + " " + x.last(0, 22) + " " + x.last(0, 4) + " " + x.last(1, 0), "-1 -1 -1 -1");
        x.part(0, 0, 2, 0);
        due("last behind which a part was cut off", x.last(0, 1), 0);
        due("last in what is there no more", x.last(0, 23), -1);
        refusedSigns(x);
    }

    private static void p30() {
        Signtext x = houseOf("bab", "");
        due("next", x.next(0, 0, 1) + " " + x.next(0, 1, 1) + " " + x.next(0, 2, 1) + " " + x.next(0, 3, 1), "0 2 2 -1");
        due("next", x.next(0, 2, 0) + " " + x.next(0, 0, 5) + " " + x.next(1, 0, 0), "-1 -1 -1");
        for (int from : new int[] {-1, 4, MIN, MAX}) {
            refused(x, "next from " + from, OUT, () -> x.next(0, from, 24));
        }
        refusedSigns(x);
    }

    private static void p31() {
        Signtext x = houseOf("aB-1,x.x", "", "ab", "x.x");
        due("begins", x.begins(0, 6, false) + " " + x.begins(0, 1, false) + " " + x.begins(0, 0, false), "true true true");
        due("ends", x.begins(0, 5, true) + " " + x.begins(0, 0, true) + " " + x.begins(0, 6, true), "true true false");
        due("begins", x.begins(0, 2, false) + " " + x.begins(0, 3, false) + " " + x.begins(0, 4, false), "false false false");
        due("empty", x.begins(1, 0, false) + " " + x.begins(1, 0, true) + " " + x.begins(1, 1, true), "true true false");
        due("both", x.begins(2, 2, false) + " " + x.begins(2, 2, true) + " " + x.begins(2, 1, true), "true true false");
        due("too long", x.begins(2, 6, false) + " " + x.begins(2, 6, true) + " " + x.begins(3, 6, true), "false false false");
        for (int known : NO_KNOWN) {
            refused(x, "begins " + known, ARGUMENT, () -> x.begins(0, known, true));
        }
        for (int text : NO_TEXT) {
            refused(x, "begins(" + text + ")", OUT, () -> x.begins(text, 7, false));
        }
    }

    private static void p32() {
        Signtext x = houseOf("xaBAb", "", "ab-1");
        due("stands", x.stands(0, 1, 1, false) + " " + x.stands(0, 3, 3, false), "true true");
        due("stands", x.stands(0, 1, 2, false) + " " + x.stands(0, 1, 2, true) + " " + x.stands(0, 3, 2, true), "false true true");
        due("stands", x.stands(0, 1, 3, false) + " " + x.stands(0, 1, 3, true), "false true");
        due("stands", x.stands(2, 0, 6, false) + " " + x.stands(2, 0, 6, true) + " " + x.stands(2, 1, 6, true), "false true false");
        due("beyond", x.stands(0, 4, 2, true) + " " + x.stands(0, 5, 1, false), "false false");
        due("empty", x.stands(0, 0, 0, false) + " " + x.stands(0, 5, 0, true) + " " + x.stands(1, 0, 0, false), "true true true");
        for (int place : new int[] {-1, 6, 61, MIN, MAX, MAX - 1, MIN + 1}) {
            due("empty at " + place, x.stands(0, place, 0, false), false);
            due("a at " + place, x.stands(0, place, 1, true), false);
            due("aB-1 at " + place, x.stands(0, place, 6, true), false);
        }
        for (int known : NO_KNOWN) {
            refused(x, "stands " + known, ARGUMENT, () -> x.stands(0, -1, known, true));
        }
        for (int text : NO_TEXT) {
            refused(x, "stands(" + text + ")", OUT, () -> x.stands(text, 0, 7, false));
        }
    }

    private static void refusedPairs(String name, Signtext x, PairCall call) {
        for (int text : NO_TEXT) {
            refused(x, name + "(" + text + ", 0)", OUT, () -> call.answer(text, 0));
            refused(x, name + "(0, " + text + ")", OUT, () -> call.answer(0, text));
            refused(x, name + "(3, " + text + ")", OUT, () -> call.answer(3, text));
        }
    }

    private interface PairCall {
        Object answer(int one, int other);
    }

    private static void p33() {
        Signtext x = houseOf("aabaab", "ab", "", "A");
        due("firstOf", x.firstOf(0, 1) + " " + x.firstOf(0, 0) + " " + x.firstOf(0, 2), "1 0 0");
        due("firstOf", x.firstOf(1, 0) + " " + x.firstOf(0, 3) + " " + x.firstOf(2, 1) + " " + x.firstOf(2, 2), "-1 -1 -1 0");
        Signtext y = houseOf("aaab", "aab", "b");
        due("firstOf after a false start", y.firstOf(0, 1), 1);
        due("firstOf at the end", y.firstOf(0, 2), 3);
        refusedPairs("firstOf", x, x::firstOf);
    }

    private static void p34() {
        Signtext x = houseOf("aabaab", "ab", "", "A");
        due("lastOf", x.lastOf(0, 1) + " " + x.lastOf(0, 0) + " " + x.lastOf(0, 2), "4 0 6");
        due("lastOf", x.lastOf(1, 0) + " " + x.lastOf(0, 3) + " " + x.lastOf(2, 1) + " " + x.lastOf(2, 2), "-1 -1 -1 0");
        Signtext y = houseOf("abbb", "ab", "aa", "a");
        due("lastOf at the beginning", y.lastOf(0, 1), 0);
        due("lastOf", y.lastOf(0, 3) + " " + y.lastOf(2, 3) + " " + y.lastOf(0, 2), "0 1 -1");
        refusedPairs("lastOf", x, x::lastOf);
    }

    private static void p35() {
        Signtext x = houseOf("xaabx", "ab", "", "A");
        due("isIn", x.isIn(0, 1) + " " + x.isIn(0, 0) + " " + x.isIn(0, 2) + " " + x.isIn(2, 2), "true true true true");
        due("isIn", x.isIn(1, 0) + " " + x.isIn(0, 3) + " " + x.isIn(2, 1), "false false false");
        refusedPairs("isIn", x, x::isIn);
    }

    private static void p36() {
        Signtext x = houseOf("abcx\351", "ABCX\311", "abcx\351", "abcx");
        due("isSame", x.isSame(0, 1, false) + " " + x.isSame(0, 2, false) + " " + x.isSame(0, 0, false), "false true true");
        due("isSame", x.isSame(0, 3, false) + " " + x.isSame(3, 0, false), "false false");
        due("like", x.isSame(0, 1, true) + " " + x.isSame(1, 0, true) + " " + x.isSame(0, 2, true), "true true true");
        due("like", x.isSame(0, 3, true) + " " + x.isSame(3, 1, true), "false false");
        Signtext y = houseOf("_", "\240", "", "-");
        due("like, no CAPITALS", y.isSame(0, 1, true) + " " + y.isSame(0, 3, true) + " " + y.isSame(2, 2, true), "false false true");
        for (int sign = 0; sign < 24; sign++) {
            for (int other = 0; other < 24; other++) {
                Signtext z = houseOf(String.valueOf((char) CODES[sign]), String.valueOf((char) CODES[other]));
                due("same " + sign + " " + other, z.isSame(0, 1, false), sign == other);
                due("like " + sign + " " + other, z.isSame(0, 1, true), littleSign(sign) == littleSign(other));
            }
        }
        refusedPairs("isSame", x, (one, other) -> x.isSame(one, other, false));
        refusedPairs("isSame like", x, (one, other) -> x.isSame(one, other, true));
    }

    private static int littleSign(int sign) {
        return sign >= 4 && sign <= 7 ? sign - 4 : sign == 23 ? 22 : sign;
    }

    private static void p37() {
        Signtext x = houseOf("ab", "aB", "abc", "");
        due("order", x.order(0, 1) + " " + x.order(1, 0) + " " + x.order(0, 0), "32 -32 0");
        due("order by how long", x.order(0, 2) + " " + x.order(2, 0) + " " + x.order(3, 2) + " " + x.order(2, 3), "-1 1 -3 3");
        due("order, empty", x.order(3, 3), 0);
        due("order of what is longer", x.order(1, 2) + " " + x.order(2, 1), "-32 32");
        Signtext y = houseOf("\351", "\001", "ba", "ab");
        due("order", y.order(0, 1) + " " + y.order(1, 0) + " " + y.order(2, 3), "232 -232 1");
        refusedPairs("order", x, x::order);
    }

    private static void p38() {
        Signtext x = houseOf("ab\311", "AB\351", "abc", "_");
        due("orderLike", x.orderLike(0, 1) + " " + x.orderLike(1, 0) + " " + x.orderLike(1, 1), "0 0 0");
        due("orderLike", x.orderLike(0, 2) + " " + x.orderLike(2, 0) + " " + x.orderLike(1, 2), "1 -1 1");
        due("the sign 95 is ahead of a letter", x.orderLike(3, 1) + " " + x.orderLike(1, 3), "-1 1");
        Signtext y = houseOf("AB", "abcxa", "", "B");
        due("orderLike by how long", y.orderLike(0, 1) + " " + y.orderLike(1, 0) + " " + y.orderLike(2, 1), "-1 1 -1");
        due("orderLike", y.orderLike(2, 2) + " " + y.orderLike(3, 1) + " " + y.orderLike(1, 3), "0 1 -1");
        refusedPairs("orderLike", x, x::orderLike);
    }

    private static void p39() {
        Signtext x = houseOf("a\311 ", many("x", 60));
        due("row", x.row(), "");
        x.lay(0);
        due("row", x.row(), "a\311 ");
        String kept = x.row();
        x.set(0, 1);
        due("row", x.row(), "b\311 ");
        due("what was told before", kept, "a\311 ");
        x.lay(1);
        due("row", x.row(), many("x", 60));
    }

    private static void p40() {
        Signtext x = houseOf("a\311", "b");
        refused(x, "rowAt of an empty row", OUT, () -> x.rowAt(0));
        x.lay(0);
        due("rowAt", x.rowAt(0) + " " + x.rowAt(1), "97 201");
        x.set(1, 19);
        due("rowAt", x.rowAt(1), 1);
        x.lay(1);
        for (int place : new int[] {-1, 1, 60, MIN, MAX}) {
            refused(x, "rowAt " + place, OUT, () -> x.rowAt(place));
        }
    }

    private static void p41() {
        Signtext x = houseOf(",a\311,,b,,", "ab");
        refused(x, "piece without one", OUT, () -> x.piece(0));
        x.cut(0);
        due("pieces", x.piece(0) + ";" + x.piece(1) + ";" + x.piece(2) + ";" + x.piece(3), ";a\311;;b");
        for (int piece : new int[] {-1, 4, 5, MIN, MAX}) {
            refused(x, "piece " + piece, OUT, () -> x.piece(piece));
        }
        x.cut(1);
        due("piece", x.piece(0), "ab");
        refused(x, "a piece that is there no more", OUT, () -> x.piece(1));
    }

    private static void p42() {
        Signtext x = houseOf("ab,,aB", "ab", "aB", "");
        refused(x, "isPiece without one", OUT, () -> x.isPiece(0, 0));
        x.cut(0);
        due("isPiece", x.isPiece(0, 1) + " " + x.isPiece(1, 3) + " " + x.isPiece(2, 2), "true true true");
        due("isPiece", x.isPiece(0, 2) + " " + x.isPiece(2, 1) + " " + x.isPiece(0, 0) + " " + x.isPiece(0, 3), "false false false false");
        for (int piece : new int[] {-1, 3, MIN, MAX}) {
            refused(x, "isPiece " + piece, OUT, () -> x.isPiece(piece, 0));
        }
        for (int text : NO_TEXT) {
            refused(x, "isPiece(0, " + text + ")", OUT, () -> x.isPiece(0, text));
        }
    }

    private static void p43() {
        Signtext x = new Signtext();
        due("house", x.house(0) + " " + x.house(1) + " " + x.house(2) + " " + x.house(3) + " " + x.house(4), "0 0 0 4 0");
        Signtext y = houseOf("a,b,c", "", "ab");
        y.lay(2);
        y.cut(0);
        y.knock();
        y.knock();
        due("house", y.house(0) + " " + y.house(1) + " " + y.house(2) + " " + y.house(3) + " " + y.house(4), "2 3 7 2 2");
        for (int what : new int[] {-1, 5, MIN, MAX}) {
            refused(y, "house " + what, ARGUMENT, () -> y.house(what));
        }
    }

    private static void p44() {
        due("isSound", new Signtext().isSound(), true);
        String[][] houses = {
            {"", ",", ",,", " \001 "}, {"ab", "aB", "AB", "ab"}, {",a,,b,,", "a", "b", ","},
            {many("a", 60), many("a", 59), many(",", 60), many("aa,", 20)}, {"\351", "\311", "\240", "\034\001"},
        };
        for (String[] texts : houses) {
            Signtext x = houseOf(texts);
            x.lay(1);
            x.cut(2);
            x.knock();
            String before = stateOf(x);
            due("isSound", x.isSound(), true);
            due("what stands after isSound", stateOf(x), before);
        }
    }

    private static void p45() {
        Signtext x = new Signtext();
        due("digest of a new one", x.digest(), digestOf(x));
        String[][] houses = {
            {"ab\311", "b", "AB\351", ""}, {" a\001", "\t\001a \034", ",a,,b,,", "aB-1"},
            {many("a", 60), many("aa,", 20), many("\351", 60), " \n"},
        };
        for (String[] texts : houses) {
            Signtext y = houseOf(texts);
            y.lay(0);
            y.cut(2);
            y.knock();
            String before = stateOf(y);
            due("digest", y.digest(), digestOf(y));
            due("digest again", y.digest(), digestOf(y));
            due("what stands after digest", stateOf(y), before);
        }
    }

    /** The checksum, reckoned by the calls that the document names for it. */
    private static long digestOf(Signtext x) {
        long sum = 6173;
        for (int what = 0; what < 5; what++) {
            sum = sum * 31 + x.house(what);
        }
        for (int text = 0; text < 4; text++) {
            String told = x.text(text);
            sum = sum * 31 + told.hashCode();
            sum = sum * 31 + told.length();
            sum = sum * 31 + (x.isBlank(text) ? 1 : 0);
            sum = sum * 31 + told.trim().length();
            sum = sum * 31 + told.strip().length();
        }
        for (int one = 0; one < 4; one++) {
            for (int other = 0; other < 4; other++) {
                sum = sum * 31 + x.firstOf(one, other);
                sum = sum * 31 + x.lastOf(one, other);
                sum = sum * 31 + x.order(one, other);
                sum = sum * 31 + x.orderLike(one, other);
                sum = sum * 31 + (x.isSame(one, other, true) ? 1 : 0);
            }
        }
        for (char code : x.row().toCharArray()) {
            sum = sum * 31 + code;
        }
        for (int piece = 0; piece < x.house(1); piece++) {
            sum = sum * 31 + x.piece(piece).length();
        }
        return sum * 31 + 1;
    }

    private static final String FACE = String.join("\n",
        "put(int,int,int,int,int,int):int OAS", "clear(int):int O", "copy(int,int):int O",
        "part(int,int,int,int):int O", "tail(int,int,int):int O", "join(int,int,int):int OS",
        "times(int,int,int):int OAS", "trim(int,boolean,int):int O", "number(int,int,boolean):int OS",
        "great(int,int,int):int OS", "truth(int,boolean,boolean):int OS", "ahead(int,int):int OAS",
        "known(int,int):int OAS", "lay(int):int O", "set(int,int):int OA", "take(int):int O",
        "takePart(int,int,int):int O", "cut(int):int O", "takePiece(int,int):int O", "knock():int ",
        "text(int):String O", "length(int):int O", "at(int,int):int O", "isEmpty(int):boolean O",
        "isBlank(int):boolean O", "hash(int):int O", "first(int,int):int OA", "last(int,int):int OA",
        "next(int,int,int):int OA", "begins(int,int,boolean):boolean OA",
        "stands(int,int,int,boolean):boolean OA", "firstOf(int,int):int O", "lastOf(int,int):int O",
        "isIn(int,int):boolean O", "isSame(int,int,boolean):boolean O", "order(int,int):int O",
        "orderLike(int,int):int O", "row():String ", "rowAt(int):int O", "piece(int):String O",
        "isPiece(int,int):boolean O", "house(int):int A", "isSound():boolean ", "digest():long ");

    /** The public face, and that no other name of it is used again (LANGUAGE.md, rule 1). */
    private static void face() {
        due("modifiers", Modifier.toString(Signtext.class.getModifiers()), "public final");
        due("fields", Signtext.class.getFields().length, 0);
        Constructor<?>[] makers = Signtext.class.getDeclaredConstructors();
        due("constructors", makers.length + " " + makers[0], "1 public Signtext()");
        TreeSet<String> told = new TreeSet<>();
        TreeSet<String> names = new TreeSet<>();
        for (Method method : Signtext.class.getDeclaredMethods()) {
            if (Modifier.isPublic(method.getModifiers())) {
                told.add(lineOf(method));
                names.add(method.getName());
            } else {
                due(method.getName() + " is private", Modifier.isPrivate(method.getModifiers()), true);
            }
        }
        due("face", told, new TreeSet<>(List.of(FACE.split("\n"))));
        for (Method method : Signtext.class.getDeclaredMethods()) {
            if (Modifier.isPrivate(method.getModifiers())) {
                due(method.getName() + " is a public name, too", names.contains(method.getName()), false);
            }
        }
    }

    private static String lineOf(Method method) {
        StringBuilder line = new StringBuilder(method.getName()).append('(');
        for (Class<?> kind : method.getParameterTypes()) {
            line.append(line.charAt(line.length() - 1) == '(' ? "" : ",").append(kind.getSimpleName());
        }
        line.append("):").append(method.getReturnType().getSimpleName()).append(' ');
        for (Class<?> thrown : method.getExceptionTypes()) {
            line.append(thrown == OUT ? "O" : thrown == ARGUMENT ? "A" : thrown == STATE ? "S" : "?");
        }
        return line.toString();
    }

    private static void test(String name, Runnable body) {
        promise = name;
        try {
            body.run();
        } catch (RuntimeException thrown) {
            wrong++;
            System.out.println("promise " + name + ": threw " + thrown);
        }
    }

    public static void main(String[] args) {
        Runnable[] bodies = {
            PromisesTest::p1, PromisesTest::p2, PromisesTest::p3, PromisesTest::p4, PromisesTest::p5,
            PromisesTest::p6, PromisesTest::p7, PromisesTest::p8, PromisesTest::p9, PromisesTest::p10,
            PromisesTest::p11, PromisesTest::p12, PromisesTest::p13, PromisesTest::p14, PromisesTest::p15,
            PromisesTest::p16, PromisesTest::p17, PromisesTest::p18, PromisesTest::p19, PromisesTest::p20,
            PromisesTest::p21, PromisesTest::p22, PromisesTest::p23, PromisesTest::p24, PromisesTest::p25,
            PromisesTest::p26, PromisesTest::p27, PromisesTest::p28, PromisesTest::p29, PromisesTest::p30,
            PromisesTest::p31, PromisesTest::p32, PromisesTest::p33, PromisesTest::p34, PromisesTest::p35,
            PromisesTest::p36, PromisesTest::p37, PromisesTest::p38, PromisesTest::p39, PromisesTest::p40,
            PromisesTest::p41, PromisesTest::p42, PromisesTest::p43, PromisesTest::p44, PromisesTest::p45,
        };
        test("face", PromisesTest::face);
        for (int body = 0; body < bodies.length; body++) {
            test(Integer.toString(body + 1), bodies[body]);
        }
        System.out.println(wrong == 0 ? "all promises hold" : wrong + " answers are not as due");
        if (wrong != 0) {
            System.exit(1);
        }
    }
}
