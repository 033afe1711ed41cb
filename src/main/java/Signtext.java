/** A house of four texts that never change, a row of signs that does, and the pieces of a text cut at its commas. */
public final class Signtext {
    private static final int NONE = -1;
    private static final int TEXTS = 4;
    private static final int KNOWN = 7;
    private static final int LONGEST = 60;
    private static final int COMMA = 44;
    private static final int MINUS = 45;
    private static final int DIGIT_0 = 48;
    private static final int BLANK = 32;
    private static final long GREATEST_TEN = 1000000000000000000L;
    private static final int[] CODES = {
        97, 98, 99, 120, 65, 66, 67, 88,
        48, 49, 55, 57,
        44, 46, 45, 95,
        32, 9, 10, 1, 28,
        160, 233, 201
    };

    private final Line[] texts = new Line[TEXTS];
    private final Line[] knownTexts = new Line[KNOWN];
    private final Line row = new Line();
    private final Pieces pieces = new Pieces();
    private int knocks = 0;

    // These hold nothing between two calls; they are kept because what a run makes is counted.
    private final Line made = new Line();
    private final Line draft = new Line();
    private final Pieces tried = new Pieces();

    public Signtext() {
        for (int text = 0; text < TEXTS; text++) {
            texts[text] = new Line();
        }
        for (int known = 0; known < KNOWN; known++) {
            knownTexts[known] = new Line();
            knownTexts[known].addWord(wordOfKnown(known));
        }
    }

    // ---- what makes texts

    public int put(int text, int a, int b, int c, int d, int e)
            throws IndexOutOfBoundsException, IllegalArgumentException, IllegalStateException {
        Line line = textOf(text);
        made.empty();
        addSignOrNone(a);
        addSignOrNone(b);
        addSignOrNone(c);
        addSignOrNone(d);
        addSignOrNone(e);
        return joinInto(line, made, line);
    }

    public int clear(int text) throws IndexOutOfBoundsException {
        Line line = textOf(text);
        int before = line.size();
        line.empty();
        return before;
    }

    public int copy(int text, int into) throws IndexOutOfBoundsException {
        Line line = textOf(text);
        return partInto(line, 0, line.size(), textOf(into));
    }

    public int part(int text, int from, int to, int into) throws IndexOutOfBoundsException {
        Line line = textOf(text);
        Line target = textOf(into);
        if (from < 0 || to < from || to > line.size()) {
            throw new IndexOutOfBoundsException();
        }
        return partInto(line, from, to, target);
    }

    public int tail(int text, int from, int into) throws IndexOutOfBoundsException {
        Line line = textOf(text);
        Line target = textOf(into);
        needPlaceOrEnd(line, from);
        return partInto(line, from, line.size(), target);
    }

    public int join(int one, int other, int into) throws IndexOutOfBoundsException, IllegalStateException {
        return joinInto(textOf(one), textOf(other), textOf(into));
    }

    public int times(int text, int many, int into)
            throws IndexOutOfBoundsException, IllegalArgumentException, IllegalStateException {
        Line line = textOf(text);
        Line target = textOf(into);
        if (many < 0 || many > LONGEST) {
            throw new IllegalArgumentException();
        }
        needRoom(line.size() * many);
        draft.empty();
        for (int time = 0; time < many; time++) {
            draft.addAll(line);
        }
        target.become(draft);
        return target.size();
    }

    public int trim(int text, boolean isStripped, int into) throws IndexOutOfBoundsException {
        Line line = textOf(text);
        return partInto(line, line.trimmedBegin(isStripped), line.trimmedEnd(isStripped), textOf(into));
    }

    public int number(int text, int number, boolean isAhead) throws IndexOutOfBoundsException, IllegalStateException {
        Line line = textOf(text);
        made.empty();
        made.addNumber(number);
        return addMade(line, isAhead);
    }

    public int great(int text, int high, int low) throws IndexOutOfBoundsException, IllegalStateException {
        Line line = textOf(text);
        made.empty();
        made.addNumber(((long) high << 32) | (low & 0xFFFFFFFFL));
        return addMade(line, false);
    }

    public int truth(int text, boolean is, boolean isAhead) throws IndexOutOfBoundsException, IllegalStateException {
        Line line = textOf(text);
        made.empty();
        made.addWord(is ? "true" : "false");
        return addMade(line, isAhead);
    }

    public int ahead(int text, int sign)
            throws IndexOutOfBoundsException, IllegalArgumentException, IllegalStateException {
        Line line = textOf(text);
        made.empty();
        made.addCode(codeOf(sign));
        return addMade(line, true);
    }

    public int known(int text, int known)
            throws IndexOutOfBoundsException, IllegalArgumentException, IllegalStateException {
        Line line = textOf(text);
        return joinInto(line, knownOf(known), line);
    }

    // ---- the row

    public int lay(int text) throws IndexOutOfBoundsException {
        row.become(textOf(text));
        return row.size();
    }

    public int set(int place, int sign) throws IndexOutOfBoundsException, IllegalArgumentException {
        needPlace(row, place);
        int code = codeOf(sign);
        int before = row.codeAt(place);
        row.change(place, code);
        return before;
    }

    public int take(int into) throws IndexOutOfBoundsException {
        return partInto(row, 0, row.size(), textOf(into));
    }

    public int takePart(int into, int from, int many) throws IndexOutOfBoundsException {
        Line target = textOf(into);
        needPlaceOrEnd(row, from);
        // from and many together could wrap around.
        if (many < 0 || many > row.size() - from) {
            throw new IndexOutOfBoundsException();
        }
        return partInto(row, from, from + many, target);
    }

    // ---- the pieces

    public int cut(int text) throws IndexOutOfBoundsException {
        pieces.cutOf(textOf(text));
        return pieces.size();
    }

    public int takePiece(int piece, int into) throws IndexOutOfBoundsException {
        needPiece(piece);
        return pieceInto(piece, textOf(into));
    }

    // ---- else

    public int knock() {
        knocks++;
        return knocks;
    }

    // ---- what is asked of one text

    public String text(int text) throws IndexOutOfBoundsException {
        return textOf(text).asString();
    }

    public int length(int text) throws IndexOutOfBoundsException {
        return textOf(text).size();
    }

    public int at(int text, int place) throws IndexOutOfBoundsException {
        Line line = textOf(text);
        needPlace(line, place);
        return line.codeAt(place);
    }

    public boolean isEmpty(int text) throws IndexOutOfBoundsException {
        return textOf(text).size() == 0;
    }

    public boolean isBlank(int text) throws IndexOutOfBoundsException {
        return textOf(text).isAllWhite();
    }

    public int hash(int text) throws IndexOutOfBoundsException {
        return textOf(text).hashOfSigns();
    }

    public int first(int text, int sign) throws IndexOutOfBoundsException, IllegalArgumentException {
        Line line = textOf(text);
        return line.firstPlaceOfCode(codeOf(sign), 0);
    }

    public int last(int text, int sign) throws IndexOutOfBoundsException, IllegalArgumentException {
        Line line = textOf(text);
        return line.lastPlaceOfCode(codeOf(sign));
    }

    public int next(int text, int from, int sign) throws IndexOutOfBoundsException, IllegalArgumentException {
        Line line = textOf(text);
        needPlaceOrEnd(line, from);
        return line.firstPlaceOfCode(codeOf(sign), from);
    }

    public boolean begins(int text, int known, boolean isEnd)
            throws IndexOutOfBoundsException, IllegalArgumentException {
        Line line = textOf(text);
        Line sought = knownOf(known);
        return line.standsAt(sought, isEnd ? line.size() - sought.size() : 0, false);
    }

    public boolean stands(int text, int place, int known, boolean isLike)
            throws IndexOutOfBoundsException, IllegalArgumentException {
        Line line = textOf(text);
        return line.standsAt(knownOf(known), place, isLike);
    }

    // ---- what is asked of two texts

    public int firstOf(int text, int other) throws IndexOutOfBoundsException {
        return textOf(text).firstPlaceOf(textOf(other));
    }

    public int lastOf(int text, int other) throws IndexOutOfBoundsException {
        return textOf(text).lastPlaceOf(textOf(other));
    }

    public boolean isIn(int text, int other) throws IndexOutOfBoundsException {
        return textOf(text).holds(textOf(other));
    }

    public boolean isSame(int text, int other, boolean isLike) throws IndexOutOfBoundsException {
        return textOf(text).isSameAs(textOf(other), isLike);
    }

    public int order(int text, int other) throws IndexOutOfBoundsException {
        return textOf(text).orderTo(textOf(other), false);
    }

    public int orderLike(int text, int other) throws IndexOutOfBoundsException {
        return directionOf(textOf(text).orderTo(textOf(other), true));
    }

    // ---- what is asked of row and pieces

    public String row() {
        return row.asString();
    }

    public int rowAt(int place) throws IndexOutOfBoundsException {
        needPlace(row, place);
        return row.codeAt(place);
    }

    public String piece(int piece) throws IndexOutOfBoundsException {
        needPiece(piece);
        pieceInto(piece, made);
        return made.asString();
    }

    public boolean isPiece(int piece, int text) throws IndexOutOfBoundsException {
        needPiece(piece);
        Line line = textOf(text);
        pieceInto(piece, made);
        return made.isSameAs(line, false);
    }

    public int house(int what) throws IllegalArgumentException {
        switch (what) {
            case 0: return row.size();
            case 1: return pieces.size();
            case 2: return signsOfAll();
            case 3: return emptyOnes();
            case 4: return knocks;
            default: throw new IllegalArgumentException();
        }
    }

    public boolean isSound() {
        for (int one = 0; one < TEXTS; one++) {
            if (!isSoundAlone(texts[one])) {
                return false;
            }
            for (int other = 0; other < TEXTS; other++) {
                if (!isSoundPair(texts[one], texts[other])) {
                    return false;
                }
            }
        }
        return true;
    }

    public long digest() {
        long sum = 6173;
        for (int what = 0; what <= 4; what++) {
            sum = summed(sum, house(what));
        }
        for (int text = 0; text < TEXTS; text++) {
            sum = summedText(sum, texts[text]);
        }
        for (int one = 0; one < TEXTS; one++) {
            for (int other = 0; other < TEXTS; other++) {
                sum = summedPair(sum, texts[one], texts[other]);
            }
        }
        for (int place = 0; place < row.size(); place++) {
            sum = summed(sum, row.codeAt(place));
        }
        for (int piece = 0; piece < pieces.size(); piece++) {
            sum = summed(sum, pieces.endOf(piece) - pieces.beginOf(piece));
        }
        return summed(sum, isSound() ? 1 : 0);
    }

    // ---- what the calls ask first

    private Line textOf(int text) {
        if (text < 0 || text >= TEXTS) {
            throw new IndexOutOfBoundsException();
        }
        return texts[text];
    }

    private Line knownOf(int known) {
        if (known < 0 || known >= KNOWN) {
            throw new IllegalArgumentException();
        }
        return knownTexts[known];
    }

    private static int codeOf(int sign) {
        if (sign < 0 || sign >= CODES.length) {
            throw new IllegalArgumentException();
        }
        return CODES[sign];
    }

    private static void needPlace(Line line, int place) {
        if (place < 0 || place >= line.size()) {
            throw new IndexOutOfBoundsException();
        }
    }

    private static void needPlaceOrEnd(Line line, int place) {
        if (place < 0 || place > line.size()) {
            throw new IndexOutOfBoundsException();
        }
    }

    private void needPiece(int piece) {
        if (piece < 0 || piece >= pieces.size()) {
            throw new IndexOutOfBoundsException();
        }
    }

    private static void needRoom(int size) {
        if (size > LONGEST) {
            throw new IllegalStateException();
        }
    }

    // ---- how texts are made

    private void addSignOrNone(int sign) {
        if (sign != NONE) {
            made.addCode(codeOf(sign));
        }
    }

    private int addMade(Line line, boolean isAhead) {
        return isAhead ? joinInto(made, line, line) : joinInto(line, made, line);
    }

    // The target may be one of the two, so it changes only when both have been read.
    private int joinInto(Line one, Line other, Line target) {
        needRoom(one.size() + other.size());
        draft.empty();
        draft.addAll(one);
        draft.addAll(other);
        target.become(draft);
        return target.size();
    }

    private int partInto(Line line, int from, int to, Line target) {
        draft.empty();
        draft.addPart(line, from, to);
        target.become(draft);
        return target.size();
    }

    private int pieceInto(int piece, Line target) {
        return partInto(pieces.line(), pieces.beginOf(piece), pieces.endOf(piece), target);
    }

    private static String wordOfKnown(int known) {
        switch (known) {
            case 1: return "a";
            case 2: return "ab";
            case 3: return "A";
            case 4: return ",";
            case 5: return "x.x";
            case 6: return "aB-1";
            default: return "";
        }
    }

    // ---- what is reckoned of all

    private int signsOfAll() {
        int signs = 0;
        for (int text = 0; text < TEXTS; text++) {
            signs += texts[text].size();
        }
        return signs;
    }

    private int emptyOnes() {
        int many = 0;
        for (int text = 0; text < TEXTS; text++) {
            if (texts[text].size() == 0) {
                many++;
            }
        }
        return many;
    }

    private static long summed(long sum, long value) {
        return sum * 31 + value;
    }

    private static long summedText(long sum, Line line) {
        long next = summed(sum, line.hashOfSigns());
        next = summed(next, line.size());
        next = summed(next, line.isAllWhite() ? 1 : 0);
        next = summed(next, line.trimmedEnd(false) - line.trimmedBegin(false));
        return summed(next, line.trimmedEnd(true) - line.trimmedBegin(true));
    }

    private static long summedPair(long sum, Line one, Line other) {
        long next = summed(sum, one.firstPlaceOf(other));
        next = summed(next, one.lastPlaceOf(other));
        next = summed(next, one.orderTo(other, false));
        next = summed(next, directionOf(one.orderTo(other, true)));
        return summed(next, one.isSameAs(other, true) ? 1 : 0);
    }

    private static int directionOf(int order) {
        return Integer.compare(order, 0);
    }

    // ---- whether all is sound

    private boolean isSoundAlone(Line line) {
        return isSameTakenAgain(line)
            && isSameInTwoParts(line)
            && isSameTrimmedAgain(line, false)
            && isSameTrimmedAgain(line, true)
            && isSameOfPieces(line);
    }

    private boolean isSameTakenAgain(Line line) {
        made.become(line);
        draft.become(made);
        return draft.isSameAs(line, false);
    }

    private boolean isSameInTwoParts(Line line) {
        for (int place = 0; place <= line.size(); place++) {
            draft.empty();
            draft.addPart(line, 0, place);
            draft.addPart(line, place, line.size());
            if (!draft.isSameAs(line, false)) {
                return false;
            }
        }
        return true;
    }

    private boolean isSameTrimmedAgain(Line line, boolean isStripped) {
        partInto(line, line.trimmedBegin(isStripped), line.trimmedEnd(isStripped), made);
        partInto(made, made.trimmedBegin(isStripped), made.trimmedEnd(isStripped), draft);
        return draft.isSameAs(made, false);
    }

    private boolean isSameOfPieces(Line line) {
        tried.cutOf(line);
        draft.empty();
        for (int piece = 0; piece < tried.size(); piece++) {
            if (piece > 0) {
                draft.addCode(COMMA);
            }
            draft.addPart(tried.line(), tried.beginOf(piece), tried.endOf(piece));
        }
        for (int place = draft.size(); place < line.size(); place++) {
            if (line.codeAt(place) != COMMA) {
                return false;
            }
        }
        return line.standsAt(draft, 0, false);
    }

    private static boolean isSoundPair(Line one, Line other) {
        int order = one.orderTo(other, false);
        boolean isSameOne = one.isSameAs(other, false);
        int firstPlace = one.firstPlaceOf(other);
        int lastPlace = one.lastPlaceOf(other);
        return isSameOne == (order == 0)
            && order == -other.orderTo(one, false)
            && (!isSameOne || one.hashOfSigns() == other.hashOfSigns())
            && one.holds(other) == (firstPlace != NONE)
            && lastPlace >= firstPlace;
    }

    /** A row of signs, each held by its code; there are never more than LONGEST. */
    private static final class Line {
        private final char[] codes = new char[LONGEST];
        private int count = 0;

        int size() {
            return count;
        }

        int codeAt(int place) {
            return place >= 0 && place < count ? codes[place] : NONE;
        }

        void empty() {
            count = 0;
        }

        void change(int place, int code) {
            if (place >= 0 && place < count) {
                codes[place] = (char) code;
            }
        }

        void addCode(int code) {
            if (count < LONGEST) {
                codes[count] = (char) code;
                count++;
            }
        }

        void addPart(Line other, int from, int to) {
            for (int place = from; place < to; place++) {
                addCode(other.codeAt(place));
            }
        }

        void addAll(Line other) {
            addPart(other, 0, other.size());
        }

        void addWord(String word) {
            for (int place = 0; place < word.length(); place++) {
                addCode(word.charAt(place));
            }
        }

        // A number below 0 is never turned round as a whole: the smallest one has no opposite.
        void addNumber(long number) {
            if (number < 0) {
                addCode(MINUS);
            }
            boolean isBegun = false;
            for (long ten = GREATEST_TEN; ten > 0; ten = ten / 10) {
                int digit = Math.abs((int) (number / ten % 10));
                isBegun = isBegun || digit != 0 || ten == 1;
                if (isBegun) {
                    addCode(DIGIT_0 + digit);
                }
            }
        }

        void become(Line other) {
            count = other.count;
            for (int place = 0; place < count; place++) {
                codes[place] = other.codes[place];
            }
        }

        String asString() {
            char[] copied = new char[count];
            for (int place = 0; place < count; place++) {
                copied[place] = codes[place];
            }
            return new String(copied);
        }

        int hashOfSigns() {
            int hash = 0;
            for (int place = 0; place < count; place++) {
                hash = 31 * hash + codes[place];
            }
            return hash;
        }

        boolean isAllWhite() {
            return trimmedBegin(true) == count;
        }

        int trimmedBegin(boolean isStripped) {
            int begin = 0;
            while (begin < count && goes(codes[begin], isStripped)) {
                begin++;
            }
            return begin;
        }

        int trimmedEnd(boolean isStripped) {
            int begin = trimmedBegin(isStripped);
            int end = count;
            while (end > begin && goes(codes[end - 1], isStripped)) {
                end--;
            }
            return end;
        }

        private static boolean goes(int code, boolean isStripped) {
            if (isStripped) {
                return code == BLANK || code == 9 || code == 10 || code == 28;
            }
            return code <= BLANK;
        }

        private static int seen(int code, boolean isLike) {
            if (!isLike) {
                return code;
            }
            switch (code) {
                case 65: return 97;
                case 66: return 98;
                case 67: return 99;
                case 88: return 120;
                case 201: return 233;
                default: return code;
            }
        }

        int firstPlaceOfCode(int code, int from) {
            for (int place = from; place < count; place++) {
                if (codeAt(place) == code) {
                    return place;
                }
            }
            return NONE;
        }

        int lastPlaceOfCode(int code) {
            for (int place = count - 1; place >= 0; place--) {
                if (codes[place] == code) {
                    return place;
                }
            }
            return NONE;
        }

        boolean standsAt(Line other, int place, boolean isLike) {
            if (place < 0 || place > count - other.size()) {
                return false;
            }
            for (int step = 0; step < other.size(); step++) {
                if (seen(codeAt(place + step), isLike) != seen(other.codeAt(step), isLike)) {
                    return false;
                }
            }
            return true;
        }

        int firstPlaceOf(Line other) {
            for (int place = 0; place <= count - other.size(); place++) {
                if (standsAt(other, place, false)) {
                    return place;
                }
            }
            return NONE;
        }

        int lastPlaceOf(Line other) {
            for (int place = count - other.size(); place >= 0; place--) {
                if (standsAt(other, place, false)) {
                    return place;
                }
            }
            return NONE;
        }

        boolean holds(Line other) {
            return firstPlaceOf(other) != NONE;
        }

        boolean isSameAs(Line other, boolean isLike) {
            return count == other.size() && standsAt(other, 0, isLike);
        }

        int orderTo(Line other, boolean isLike) {
            for (int place = 0; place < count && place < other.size(); place++) {
                int less = seen(codes[place], isLike) - seen(other.codeAt(place), isLike);
                if (less != 0) {
                    return less;
                }
            }
            return count - other.size();
        }
    }

    /** The pieces of a text: a copy of its signs, and the place behind each piece. */
    private static final class Pieces {
        private final Line line = new Line();
        // Before the empty ones at the end go, sixty commas part sixty-one pieces.
        private final int[] ends = new int[LONGEST + 1];
        private int count = 0;

        int size() {
            return count;
        }

        Line line() {
            return line;
        }

        int endOf(int piece) {
            return piece >= 0 && piece < count ? ends[piece] : 0;
        }

        int beginOf(int piece) {
            return piece > 0 ? endOf(piece - 1) + 1 : 0;
        }

        void cutOf(Line whole) {
            line.become(whole);
            count = 0;
            for (int place = 0; place < line.size(); place++) {
                if (line.codeAt(place) == COMMA) {
                    addEnd(place);
                }
            }
            addEnd(line.size());
            // One piece alone comes of a text without a comma, and stays also if it is empty.
            boolean hasComma = count > 1;
            while (hasComma && count > 0 && beginOf(count - 1) == endOf(count - 1)) {
                count--;
            }
        }

        private void addEnd(int place) {
            if (count <= LONGEST) {
                ends[count] = place;
                count++;
            }
        }
    }
}
