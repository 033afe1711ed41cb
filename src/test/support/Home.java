import java.lang.reflect.InvocationTargetException;
import java.lang.reflect.Method;
import java.util.ArrayList;
import java.util.Arrays;
import java.util.HashMap;
import java.util.List;
import java.util.Map;

/** A house, and beside it what it must hold by now; all of that is asked again after each call. */
final class Home {
    static final Class<?> OUT = IndexOutOfBoundsException.class;
    static final Class<?> ARGUMENT = IllegalArgumentException.class;
    static final Class<?> STATE = IllegalStateException.class;
    static final int MIN = Integer.MIN_VALUE;
    static final int MAX = Integer.MAX_VALUE;
    static final String SIGNS = "abcxABCX0179,.-_ \t\n\001\034\240\351\311";

    private static final int MOST_CALLS = 512;

    private static final Map<String, Method> METHODS = methodsByName();

    private final Signtext house = new Signtext();
    private final String[] texts = {"", "", "", ""};
    private String row = "";
    private List<String> pieces = List.of();
    private int knocks = 0;
    private int calls = 0;

    /** New, with nothing in it. */
    Home() {
    }

    /** With these texts from 0 on; and with a row, pieces and knocks, so that what touches them is seen. */
    static Home of(String... texts) {
        return furnished("xX ", "b,,a", texts);
    }

    static Home ofRow(String row, String... texts) {
        return furnished(row, "b,,a", texts);
    }

    static Home ofCut(String whole, String... texts) {
        return furnished("xX ", whole, texts);
    }

    private static Home furnished(String row, String whole, String... texts) {
        Home home = new Home();
        home.write(0, row);
        home.call("lay", 0);
        home.row = row;
        home.call("clear", 0);
        home.write(0, whole);
        home.call("cut", 0);
        home.pieces = List.of(whole.split(","));
        home.call("clear", 0);
        home.call("knock");
        home.knocks = 1;
        for (int text = 0; text < texts.length; text++) {
            home.write(text, texts[text]);
            home.texts[text] = texts[text];
        }
        return home;
    }

    private void write(int text, String signs) {
        for (int place = 0; place < signs.length(); place += 5) {
            Object[] args = {text, -1, -1, -1, -1, -1};
            for (int step = 0; step < 5 && place + step < signs.length(); step++) {
                args[step + 1] = signOf(signs.charAt(place + step));
            }
            call("put", args);
        }
    }

    private static int signOf(char code) {
        int sign = SIGNS.indexOf(code);
        if (sign < 0) {
            throw new AssertionError("no sign has the code " + (int) code);
        }
        return sign;
    }

    /** The call has this answer and changes nothing. */
    void tells(Object want, String name, Object... args) {
        expect(want, name, args);
    }

    /** The text becomes this, and the call tells how long it is. */
    void makes(int text, String signs, String name, Object... args) {
        texts[text] = signs;
        expect(signs.length(), name, args);
    }

    /** The text is empty then, and the call tells how long it was. */
    void clears(int text) {
        int before = texts[text].length();
        texts[text] = "";
        expect(before, "clear", text);
    }

    void laysRow(String signs, int text) {
        row = signs;
        expect(signs.length(), "lay", text);
    }

    /** A place of the row changes, and the call tells the code of what was there. */
    void setsRow(String signs, int before, int place, int sign) {
        row = signs;
        expect(before, "set", place, sign);
    }

    void cuts(int text, String... wanted) {
        pieces = List.of(wanted);
        expect(wanted.length, "cut", text);
    }

    void knocks() {
        knocks++;
        expect(knocks, "knock");
    }

    /** Knocks so often, and asks for nothing else between. */
    void knocksUnasked(int many) {
        for (int knock = 0; knock < many; knock++) {
            knocks++;
            due("knock()", call("knock"), knocks);
        }
    }

    /** The call has this answer; nothing is asked behind it. */
    void answersAtLast(Object want, String name, Object... args) {
        due(shown(name, args) + " as call " + (calls + 1), call(name, args), want);
    }

    void digestsAtLast() {
        answersAtLast(digest(), "digest");
    }

    /** The call throws just that, and changes nothing. */
    void refuses(Class<?> kind, String name, Object... args) {
        expect("throws " + kind.getName(), name, args);
    }

    private void expect(Object want, String name, Object... args) {
        Object got = call(name, args);
        String shown = shown(name, args);
        due(shown, got, want);
        dueStanding(shown);
    }

    private void dueStanding(String shown) {
        for (int text = 0; text < 4; text++) {
            due("text(" + text + ") after " + shown, call("text", text), texts[text]);
        }
        due("row() after " + shown, call("row"), row);
        due("house(1) after " + shown, call("house", 1), pieces.size());
        for (int piece = 0; piece < pieces.size(); piece++) {
            due("piece(" + piece + ") after " + shown, call("piece", piece), pieces.get(piece));
        }
        due("house(4) after " + shown, call("house", 4), knocks);
        due("digest() after " + shown, call("digest"), digest());
    }

    private Object call(String name, Object... args) {
        calls++;
        if (calls > MOST_CALLS) {
            throw new AssertionError("the test makes more calls than an object is for: " + shown(name, args));
        }
        if (!METHODS.containsKey(name)) {
            throw new AssertionError("there is no call " + name);
        }
        return answerOf(METHODS.get(name), args);
    }

    private static Map<String, Method> methodsByName() {
        Map<String, Method> methods = new HashMap<>();
        for (Method method : Signtext.class.getDeclaredMethods()) {
            methods.put(method.getName(), method);
        }
        return methods;
    }

    private Object answerOf(Method method, Object... args) {
        try {
            return method.invoke(house, args);
        } catch (InvocationTargetException thrown) {
            return "throws " + thrown.getCause().getClass().getName();
        } catch (IllegalAccessException thrown) {
            throw new AssertionError(thrown);
        }
    }

    private static void due(String shown, Object got, Object want) {
        if (!want.equals(got)) {
            Sentences.wrong(shown + " answered " + readable(got) + ", due is " + readable(want));
        }
    }

    private static String shown(String name, Object... args) {
        String told = Arrays.toString(args);
        return name + "(" + told.substring(1, told.length() - 1) + ")";
    }

    private static String readable(Object answer) {
        StringBuilder told = new StringBuilder();
        for (char code : String.valueOf(answer).toCharArray()) {
            told.append(code >= 32 && code < 127 ? String.valueOf(code) : String.format("\\%03o", (int) code));
        }
        return told.toString();
    }

    // Reckoned of strings alone, as the document says it.
    private long digest() {
        List<Integer> values = new ArrayList<>();
        String whole = String.join("", texts);
        int empty = (int) Arrays.stream(texts).filter(String::isEmpty).count();
        values.addAll(List.of(row.length(), pieces.size(), whole.length(), empty, knocks));
        for (String text : texts) {
            values.addAll(List.of(text.hashCode(), text.length(), text.isBlank() ? 1 : 0,
                text.trim().length(), text.strip().length()));
        }
        for (String one : texts) {
            for (String other : texts) {
                values.addAll(List.of(one.indexOf(other), one.lastIndexOf(other), one.compareTo(other),
                    Integer.signum(one.compareToIgnoreCase(other)), one.equalsIgnoreCase(other) ? 1 : 0));
            }
        }
        row.chars().forEach(values::add);
        pieces.forEach(piece -> values.add(piece.length()));
        values.add(1);
        long sum = 6173;
        for (int value : values) {
            sum = sum * 31 + value;
        }
        return sum;
    }
}
