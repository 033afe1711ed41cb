import java.util.ArrayList;
import java.util.Arrays;
import java.util.List;

/** Long runs of calls, each answer held against the same call on Java's own strings. The runs are the same each time. */
public final class AgainstStringsTest {
    private static final int RUNS = 1500;
    private static final int CALLS = 512;
    private static final int METHODS = 43;
    private static final String SIGNS =
        "abcxABCX0179,.-_ \t\n\001\034\240\351\311";
    private static final String[] KNOWNS = {"", "a", "ab", "A", ",", "x.x", "aB-1"};
    private static final int[] ODD = {-2, -1, 4, 7, 24, 59, 60, 61, Integer.MIN_VALUE, Integer.MAX_VALUE};

    private static final String OUT = "throws IndexOutOfBoundsException";
    private static final String ARGUMENT = "throws IllegalArgumentException";
    private static final String STATE = "throws IllegalStateException";

    /** What the document asks, told by strings; a call answers its answer or the exception as a text. */
    private static final class House {
        private final String[] texts = {"", "", "", ""};
        private String row = "";
        private List<String> pieces = new ArrayList<>();
        private int knocks = 0;

        String call(int method, int[] n, boolean[] is) {
            switch (method) {
                case 0: return put(n);
                case 1: return noText(n[0]) ? OUT : before(texts[n[0]].length(), n[0], "");
                case 2: return noText(n[0]) || noText(n[1]) ? OUT : made(n[1], texts[n[0]]);
                case 3: return noPart(n) ? OUT : made(n[3], texts[n[0]].substring(n[1], n[2]));
                case 4: return noText(n[0]) || noText(n[2]) || noEnd(texts[n[0]], n[1]) ? OUT
                    : made(n[2], texts[n[0]].substring(n[1]));
                case 5: return noText(n[0]) || noText(n[1]) || noText(n[2]) ? OUT : made(n[2], texts[n[0]] + texts[n[1]]);
                case 6: return noText(n[0]) || noText(n[2]) ? OUT : n[1] < 0 || n[1] > 60 ? ARGUMENT
                    : made(n[2], texts[n[0]].repeat(n[1]));
                case 7: return noText(n[0]) || noText(n[1]) ? OUT
                    : made(n[1], is[0] ? texts[n[0]].strip() : texts[n[0]].trim());
                case 8: return added(n[0], Integer.toString(n[1]), is[0]);
                case 9: return added(n[0], Long.toString(((long) n[1] << 32) + Integer.toUnsignedLong(n[2])), false);
                case 10: return added(n[0], String.valueOf(is[0]), is[1]);
                case 11: return noText(n[0]) ? OUT : noSign(n[1]) ? ARGUMENT : added(n[0], SIGNS.substring(n[1], n[1] + 1), true);
                case 12: return noText(n[0]) ? OUT : noKnown(n[1]) ? ARGUMENT : added(n[0], KNOWNS[n[1]], false);
                case 13: return lay(n[0]);
                case 14: return set(n[0], n[1]);
                case 15: return noText(n[0]) ? OUT : made(n[0], row);
                case 16: return noText(n[0]) || n[1] < 0 || n[2] < 0 || (long) n[1] + n[2] > row.length() ? OUT
                    : made(n[0], row.substring(n[1], n[1] + n[2]));
                case 17: return cut(n[0]);
                case 18: return noPiece(n[0]) || noText(n[1]) ? OUT : made(n[1], pieces.get(n[0]));
                case 19: return String.valueOf(++knocks);
                default: return asked(method, n, is);
            }
        }

        private String asked(int method, int[] n, boolean[] is) {
            switch (method) {
                case 37: return row;
                case 38: return noPlace(row, n[0]) ? OUT : String.valueOf((int) row.charAt(n[0]));
                case 39: return noPiece(n[0]) ? OUT : pieces.get(n[0]);
                case 40: return noPiece(n[0]) || noText(n[1]) ? OUT : String.valueOf(pieces.get(n[0]).equals(texts[n[1]]));
                case 41: return n[0] < 0 || n[0] > 4 ? ARGUMENT : String.valueOf(house(n[0]));
                case 42: return digest() + " true";
                default:
                    if (noText(n[0])) {
                        return OUT;
                    }
                    return method < 31 ? askedOfOne(method, texts[n[0]], n, is) : askedOfTwo(method, texts[n[0]], n[1], is[0]);
            }
        }

        private String askedOfOne(int method, String text, int[] n, boolean[] is) {
            switch (method) {
                case 20: return text;
                case 21: return String.valueOf(text.length());
                case 22: return noPlace(text, n[1]) ? OUT : String.valueOf((int) text.charAt(n[1]));
                case 23: return String.valueOf(text.isEmpty());
                case 24: return String.valueOf(text.isBlank());
                case 25: return String.valueOf(text.hashCode());
                case 26: return noSign(n[1]) ? ARGUMENT : String.valueOf(text.indexOf(SIGNS.charAt(n[1])));
                case 27: return noSign(n[1]) ? ARGUMENT : String.valueOf(text.lastIndexOf(SIGNS.charAt(n[1])));
                case 28: return noEnd(text, n[1]) ? OUT : noSign(n[2]) ? ARGUMENT
                    : String.valueOf(text.indexOf(SIGNS.charAt(n[2]), n[1]));
                case 29: return noKnown(n[1]) ? ARGUMENT
                    : String.valueOf(is[0] ? text.endsWith(KNOWNS[n[1]]) : text.startsWith(KNOWNS[n[1]]));
                default: return noKnown(n[2]) ? ARGUMENT
                    : String.valueOf(text.regionMatches(is[0], n[1], KNOWNS[n[2]], 0, KNOWNS[n[2]].length()));
            }
        }

        private String askedOfTwo(int method, String text, int second, boolean isLike) {
            if (noText(second)) {
                return OUT;
            }
            String other = texts[second];
            switch (method) {
                case 31: return String.valueOf(text.indexOf(other));
                case 32: return String.valueOf(text.lastIndexOf(other));
                case 33: return String.valueOf(text.contains(other));
                case 34: return String.valueOf(isLike ? text.equalsIgnoreCase(other) : text.equals(other));
                case 35: return String.valueOf(text.compareTo(other));
                default: return String.valueOf(Integer.signum(text.compareToIgnoreCase(other)));
            }
        }

        private String put(int[] n) {
            if (noText(n[0])) {
                return OUT;
            }
            StringBuilder added = new StringBuilder();
            for (int sign = 1; sign <= 5; sign++) {
                if (n[sign] != -1 && noSign(n[sign])) {
                    return ARGUMENT;
                }
                added.append(n[sign] == -1 ? "" : SIGNS.substring(n[sign], n[sign] + 1));
            }
            return made(n[0], texts[n[0]] + added);
        }

        private String lay(int text) {
            if (noText(text)) {
                return OUT;
            }
            row = texts[text];
            return String.valueOf(row.length());
        }

        private String set(int place, int sign) {
            if (noPlace(row, place)) {
                return OUT;
            }
            if (noSign(sign)) {
                return ARGUMENT;
            }
            int before = row.charAt(place);
            row = row.substring(0, place) + SIGNS.charAt(sign) + row.substring(place + 1);
            return String.valueOf(before);
        }

        private String cut(int text) {
            if (noText(text)) {
                return OUT;
            }
            pieces = Arrays.asList(texts[text].split(","));
            return String.valueOf(pieces.size());
        }

        private String added(int text, String part, boolean isAhead) {
            return noText(text) ? OUT : made(text, isAhead ? part + texts[text] : texts[text] + part);
        }

        private String made(int into, String made) {
            return made.length() > 60 ? STATE : before(made.length(), into, made);
        }

        private String before(int answer, int into, String made) {
            texts[into] = made;
            return String.valueOf(answer);
        }

        private boolean noText(int text) {
            return text < 0 || text > 3;
        }

        private boolean noSign(int sign) {
            return sign < 0 || sign > 23;
        }

        private boolean noKnown(int known) {
            return known < 0 || known > 6;
        }

        private boolean noPlace(String text, int place) {
            return place < 0 || place >= text.length();
        }

        private boolean noEnd(String text, int place) {
            return place < 0 || place > text.length();
        }

        private boolean noPiece(int piece) {
            return piece < 0 || piece >= pieces.size();
        }

        private boolean noPart(int[] n) {
            return noText(n[0]) || noText(n[3]) || n[1] < 0 || n[2] < n[1] || n[2] > texts[n[0]].length();
        }

        private long house(int what) {
            String all = String.join("", texts);
            long empty = Arrays.stream(texts).filter(String::isEmpty).count();
            return new long[] {row.length(), pieces.size(), all.length(), empty, knocks}[what];
        }

        private long digest() {
            List<Long> values = new ArrayList<>();
            for (int what = 0; what < 5; what++) {
                values.add(house(what));
            }
            for (String text : texts) {
                values.addAll(List.of((long) text.hashCode(), (long) text.length(), text.isBlank() ? 1L : 0L,
                    (long) text.trim().length(), (long) text.strip().length()));
            }
            for (String one : texts) {
                for (String other : texts) {
                    values.addAll(List.of((long) one.indexOf(other), (long) one.lastIndexOf(other),
                        (long) one.compareTo(other), (long) Integer.signum(one.compareToIgnoreCase(other)),
                        one.equalsIgnoreCase(other) ? 1L : 0L));
                }
            }
            row.chars().forEach(code -> values.add((long) code));
            pieces.forEach(piece -> values.add((long) piece.length()));
            values.add(1L);
            long sum = 6173;
            for (long value : values) {
                sum = sum * 31 + value;
            }
            return sum;
        }
    }

    private static String asked(Signtext x, int method, int[] n, boolean[] is) {
        try {
            return String.valueOf(method < 20 ? made(x, method, n, is) : told(x, method, n, is));
        } catch (RuntimeException thrown) {
            return "throws " + thrown.getClass().getSimpleName();
        }
    }

    private static Object made(Signtext x, int method, int[] n, boolean[] is) {
        switch (method) {
            case 0: return x.put(n[0], n[1], n[2], n[3], n[4], n[5]);
            case 1: return x.clear(n[0]);
            case 2: return x.copy(n[0], n[1]);
            case 3: return x.part(n[0], n[1], n[2], n[3]);
            case 4: return x.tail(n[0], n[1], n[2]);
            case 5: return x.join(n[0], n[1], n[2]);
            case 6: return x.times(n[0], n[1], n[2]);
            case 7: return x.trim(n[0], is[0], n[1]);
            case 8: return x.number(n[0], n[1], is[0]);
            case 9: return x.great(n[0], n[1], n[2]);
            case 10: return x.truth(n[0], is[0], is[1]);
            case 11: return x.ahead(n[0], n[1]);
            case 12: return x.known(n[0], n[1]);
            case 13: return x.lay(n[0]);
            case 14: return x.set(n[0], n[1]);
            case 15: return x.take(n[0]);
            case 16: return x.takePart(n[0], n[1], n[2]);
            case 17: return x.cut(n[0]);
            case 18: return x.takePiece(n[0], n[1]);
            default: return x.knock();
        }
    }

    private static Object told(Signtext x, int method, int[] n, boolean[] is) {
        switch (method) {
            case 20: return x.text(n[0]);
            case 21: return x.length(n[0]);
            case 22: return x.at(n[0], n[1]);
            case 23: return x.isEmpty(n[0]);
            case 24: return x.isBlank(n[0]);
            case 25: return x.hash(n[0]);
            case 26: return x.first(n[0], n[1]);
            case 27: return x.last(n[0], n[1]);
            case 28: return x.next(n[0], n[1], n[2]);
            case 29: return x.begins(n[0], n[1], is[0]);
            case 30: return x.stands(n[0], n[1], n[2], is[0]);
            case 31: return x.firstOf(n[0], n[1]);
            case 32: return x.lastOf(n[0], n[1]);
            case 33: return x.isIn(n[0], n[1]);
            case 34: return x.isSame(n[0], n[1], is[0]);
            case 35: return x.order(n[0], n[1]);
            case 36: return x.orderLike(n[0], n[1]);
            case 37: return x.row();
            case 38: return x.rowAt(n[0]);
            case 39: return x.piece(n[0]);
            case 40: return x.isPiece(n[0], n[1]);
            case 41: return x.house(n[0]);
            default: return x.digest() + " " + x.isSound();
        }
    }

    private static long seed = 1;

    private static int drawn(int bound) {
        seed = seed * 6364136223846793005L + 1442695040888963407L;
        return (int) ((seed >>> 33) % bound);
    }

    /** What each number of each method is: T a text, S a sign, N a sign or NONE, P a place, M how many, K a known
     *  text, I a piece, W what of the house, A any number. */
    private static final String[] KINDS = {
        "TNNNNN", "T", "TT", "TPPT", "TPT", "TTT", "TMT", "TT", "TA", "TAA", "T", "TS", "TK", "T", "PS", "T", "TPP",
        "T", "IT", "", "T", "T", "TP", "T", "T", "T", "TS", "TS", "TPS", "TK", "TPK", "TT", "TT", "TT", "TT", "TT",
        "TT", "", "P", "I", "IT", "W", ""
    };

    // A narrow house of few signs brings texts that are the same, in one another and near one another.
    private static int number(char kind, int signs, int places) {
        if (drawn(40) == 0) {
            return ODD[drawn(ODD.length)];
        }
        switch (kind) {
            case 'T': return drawn(4);
            case 'S': return (drawn(24 / signs) * signs + drawn(signs)) % 24;
            case 'N': return drawn(3) == 0 ? -1 : drawn(signs) * (24 / signs);
            case 'P': return drawn(places);
            case 'M': return drawn(5);
            case 'K': return drawn(7);
            case 'I': return drawn(4);
            case 'W': return drawn(5);
            default: return drawn(4) == 0 ? drawn(200) - 100 : (drawn(1 << 16) << 16 | drawn(1 << 16)) >> drawn(32);
        }
    }

    private static boolean runIsAsDue(int run) {
        int signs = new int[] {2, 3, 4, 6, 8, 12, 24, 24}[run % 8];
        int places = run % 3 == 0 ? 6 : run % 3 == 1 ? 20 : 62;
        Signtext x = new Signtext();
        House house = new House();
        // The last of the methods stands for two calls, and an object has but 512.
        for (int call = 0; call < CALLS / 2; call++) {
            int method = drawn(3) == 0 ? drawn(20) : drawn(METHODS);
            int[] n = new int[6];
            for (int at = 0; at < KINDS[method].length(); at++) {
                n[at] = number(KINDS[method].charAt(at), signs, places);
            }
            boolean[] is = {drawn(2) == 0, drawn(2) == 0};
            String want = house.call(method, n, is);
            String got = asked(x, method, n, is);
            if (!want.equals(got)) {
                System.out.println("run " + run + ", call " + call + ": method " + method + " of " + Arrays.toString(n)
                    + Arrays.toString(is) + " answered " + got + ", due is " + want);
                return false;
            }
        }
        return true;
    }

    public static void main(String[] args) {
        int wrong = 0;
        for (int run = 0; run < RUNS; run++) {
            if (!runIsAsDue(run)) {
                wrong++;
            }
        }
        System.out.println(wrong == 0 ? "all runs are as due" : wrong + " runs are not as due");
        if (wrong != 0) {
            System.exit(1);
        }
    }
}
