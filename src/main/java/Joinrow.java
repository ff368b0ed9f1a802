/** Six joiners of texts, told by numbers; the document's promises say what each method does. */
public final class Joinrow {
    private static final int NONE = -1;
    private static final int REFUSED = -9;

    private static final int JOINERS = 6;
    private static final int LONGEST = 300;
    // isSound lays two insides of up to LONGEST, two "," and WORD 3 behind one another.
    private static final int ROOM = 2 * LONGEST + 20;

    private static final int WORDS = 70;
    private static final int LETTER_WORDS = 60;
    private static final int WORD_ROOM = 4;
    private static final int NO_SIGNS = 0;
    private static final int ABC = 3;
    private static final int COMMA = 60;
    private static final int OPENING = 64;
    private static final int CLOSING = 65;
    private static final int NULL = 69;

    private final Signs[] words = new Signs[WORDS];
    private final Joiner[] joiners = new Joiner[JOINERS];
    private int knocks = 0;
    private int refusals = 0;

    // Used again by every call, so that asking makes no new rows.
    private final Signs shown = new Signs(ROOM);
    private final Signs shownOther = new Signs(ROOM);
    private final Signs row = new Signs(ROOM);

    // The new joiners that isSound tries things on.
    private final Joiner left;
    private final Joiner right;
    private final Joiner middle;
    private final Joiner third;

    public Joinrow() {
        for (int i = 0; i < words.length; i++) {
            words[i] = spelled(i);
        }
        Signs between = spelled(COMMA);
        Signs prefix = spelled(OPENING);
        Signs suffix = spelled(CLOSING);
        for (int i = 0; i < joiners.length; i++) {
            joiners[i] = new Joiner(LONGEST, between, prefix, suffix);
        }
        left = new Joiner(ROOM, between, prefix, suffix);
        right = new Joiner(ROOM, between, prefix, suffix);
        middle = new Joiner(ROOM, between, prefix, suffix);
        third = new Joiner(ROOM, between, prefix, suffix);
    }

    public int begin(int joiner, int between) throws IndexOutOfBoundsException, IllegalArgumentException {
        Joiner begun = joinerAt(joiner);
        Signs newBetween = wordAt(between);
        int was = begun.size();
        begun.start(newBetween, wordAt(NO_SIGNS), wordAt(NO_SIGNS));
        return was;
    }

    public int beginWith(int joiner, int between, int prefix, int suffix) throws IndexOutOfBoundsException, IllegalArgumentException {
        Joiner begun = joinerAt(joiner);
        Signs newBetween = wordAt(between);
        Signs newPrefix = wordAt(prefix);
        Signs newSuffix = wordAt(suffix);
        int was = begun.size();
        begun.start(newBetween, newPrefix, newSuffix);
        return was;
    }

    public int beginNothing(int joiner, int which) throws IndexOutOfBoundsException, IllegalArgumentException {
        joinerAt(joiner);
        if (which < 0 || which > 2) {
            throw new IllegalArgumentException("which is not 0 to 2");
        }
        return refused();
    }

    public int twin(int joiner, int other) throws IndexOutOfBoundsException, IllegalArgumentException {
        Joiner model = joinerAt(joiner);
        Joiner begun = joinerAt(other);
        if (joiner == other) {
            throw new IllegalArgumentException("both joiners are the same");
        }
        begun.start(model.between, model.prefix, model.suffix);
        begun.take(model);
        return begun.size();
    }

    public int add(int joiner, int word) throws IndexOutOfBoundsException, IllegalArgumentException, IllegalStateException {
        Joiner grown = joinerAt(joiner);
        return layPiece(grown, wordAt(word));
    }

    public int addNumber(int joiner, int number) throws IndexOutOfBoundsException, IllegalStateException {
        Joiner grown = joinerAt(joiner);
        StringBuilder digits = new StringBuilder();
        digits.append(number);
        row.wipe();
        row.putString(digits.toString());
        return layPiece(grown, row);
    }

    public int addNothing(int joiner) throws IndexOutOfBoundsException, IllegalStateException {
        Joiner grown = joinerAt(joiner);
        return layPiece(grown, wordAt(NULL));
    }

    public int addRow(int joiner, int one, int two) throws IndexOutOfBoundsException, IllegalArgumentException, IllegalStateException {
        Joiner grown = joinerAt(joiner);
        Signs firstWord = wordAt(one);
        Signs secondWord = wordAt(two);
        row.wipe();
        row.putAll(firstWord);
        row.putAll(secondWord);
        int size = layPiece(grown, row);
        row.wipe();
        return size;
    }

    public int addText(int joiner, int other) throws IndexOutOfBoundsException, IllegalStateException {
        Joiner grown = joinerAt(joiner);
        Joiner asked = joinerAt(other);
        asked.tell(row);
        return layPiece(grown, row);
    }

    public int merge(int joiner, int other) throws IndexOutOfBoundsException, IllegalStateException {
        Joiner grown = joinerAt(joiner);
        Joiner taken = joinerAt(other);
        if (!taken.isFilled) {
            return grown.size();
        }
        return layPiece(grown, taken.inside);
    }

    public int mergeNothing(int joiner) throws IndexOutOfBoundsException {
        joinerAt(joiner);
        return refused();
    }

    public int empty(int joiner, int word) throws IndexOutOfBoundsException, IllegalArgumentException {
        Joiner changed = joinerAt(joiner);
        changed.setEmptyText(wordAt(word));
        return changed.size();
    }

    public int emptyText(int joiner, int other) throws IndexOutOfBoundsException {
        Joiner changed = joinerAt(joiner);
        Joiner asked = joinerAt(other);
        asked.tell(row);
        changed.setEmptyText(row);
        return changed.size();
    }

    public int emptyNothing(int joiner) throws IndexOutOfBoundsException {
        joinerAt(joiner);
        return refused();
    }

    public String text(int joiner) throws IndexOutOfBoundsException {
        joinerAt(joiner).tell(shown);
        return shown.cut(0, shown.count);
    }

    public int length(int joiner) throws IndexOutOfBoundsException {
        return joinerAt(joiner).size();
    }

    public int at(int joiner, int place) throws IndexOutOfBoundsException {
        joinerAt(joiner).tell(shown);
        if (place < 0 || place >= shown.count) {
            throw new IndexOutOfBoundsException("the place is none of the text");
        }
        return shown.codeAt(place);
    }

    public int find(int joiner, int word, boolean isLast) throws IndexOutOfBoundsException, IllegalArgumentException {
        Joiner asked = joinerAt(joiner);
        Signs sought = wordAt(word);
        asked.tell(shown);
        return isLast ? shown.lastPlace(sought) : shown.firstPlace(sought);
    }

    public String part(int joiner, int from, int to) throws IndexOutOfBoundsException, IllegalArgumentException {
        joinerAt(joiner).tell(shown);
        if (from < 0 || to > shown.count || from > to) {
            throw new IllegalArgumentException("from and to are no part of the text");
        }
        return shown.cut(from, to);
    }

    public int hash(int joiner) throws IndexOutOfBoundsException {
        joinerAt(joiner).tell(shown);
        return shown.signHash();
    }

    public boolean isSame(int joiner, int other) throws IndexOutOfBoundsException {
        return order(joinerAt(joiner), joinerAt(other)) == 0;
    }

    public int compare(int joiner, int other) throws IndexOutOfBoundsException {
        return order(joinerAt(joiner), joinerAt(other));
    }

    public int would(int joiner, int other) throws IndexOutOfBoundsException {
        Joiner grown = joinerAt(joiner);
        Joiner taken = joinerAt(other);
        return taken.isFilled ? grown.sizeWith(taken.inside.count) : grown.size();
    }

    public String word(int word) throws IllegalArgumentException {
        Signs asked = wordAt(word);
        return asked.cut(0, asked.count);
    }

    public int knock() {
        knocks++;
        return knocks;
    }

    public int house(int what) throws IllegalArgumentException {
        switch (what) {
            case 0:
                return sizeOfAll();
            case 1:
                return knocks;
            case 2:
                return refusals;
            case 3:
                return pairsAlike();
            default:
                throw new IllegalArgumentException("what is not 0 to 3");
        }
    }

    public boolean isSound() {
        for (int i = 0; i < joiners.length; i++) {
            if (!tellsItsLength(joiners[i]) || !isKeptByUnfilled(joiners[i])) {
                return false;
            }
            for (int j = 0; j < joiners.length; j++) {
                if (!isMergedAlike(joiners[i], joiners[j]) || !isLaidBehind(joiners[i], joiners[j])) {
                    return false;
                }
            }
        }
        return true;
    }

    public long digest() {
        long sum = 7776;
        for (int what = 0; what <= 3; what++) {
            sum = sum * 31 + house(what);
        }
        for (int i = 0; i < joiners.length; i++) {
            sum = joinerDigest(sum, i);
        }
        for (int i = 0; i < joiners.length; i++) {
            for (int j = i + 1; j < joiners.length; j++) {
                sum = sum * 31 + compare(i, j);
                sum = sum * 31 + would(i, j);
            }
        }
        return sum * 31 + (isSound() ? 1 : 0);
    }

    private long joinerDigest(long before, int joiner) {
        long sum = before * 31 + length(joiner);
        sum = sum * 31 + hash(joiner);
        sum = sum * 31 + find(joiner, 1, false);
        sum = sum * 31 + find(joiner, 1, true);
        sum = sum * 31 + find(joiner, COMMA, false);
        return sum * 31 + find(joiner, COMMA, true);
    }

    private Joiner joinerAt(int joiner) {
        if (joiner < 0 || joiner >= joiners.length) {
            throw new IndexOutOfBoundsException("there is no such joiner");
        }
        return joiners[joiner];
    }

    private Signs wordAt(int number) {
        if (number < 0 || number >= words.length) {
            throw new IllegalArgumentException("this is no number of a word");
        }
        return words[number];
    }

    private static Signs spelled(int number) {
        Signs word = new Signs(WORD_ROOM);
        if (number >= LETTER_WORDS) {
            word.putString(spelledMark(number));
            return word;
        }
        for (int k = 0; k < number % 4; k++) {
            word.put((char) ('a' + (number / 4 + k) % 26));
        }
        return word;
    }

    private static String spelledMark(int number) {
        switch (number) {
            case 60:
                return ",";
            case 61:
                return ", ";
            case 62:
                return "-";
            case 63:
                return "::";
            case 64:
                return "[";
            case 65:
                return "]";
            case 66:
                return "(";
            case 67:
                return ")";
            case 68:
                return "{}";
            default:
                return "null";
        }
    }

    private int refused() {
        refusals++;
        return REFUSED;
    }

    private static int layPiece(Joiner grown, Signs piece) {
        if (grown.sizeWith(piece.count) > LONGEST) {
            throw new IllegalStateException("the text would be too long");
        }
        grown.lay(piece);
        return grown.size();
    }

    private int order(Joiner first, Joiner second) {
        first.tell(shown);
        second.tell(shownOther);
        return shown.order(shownOther);
    }

    private int sizeOfAll() {
        int sum = 0;
        for (int i = 0; i < joiners.length; i++) {
            sum += joiners[i].size();
        }
        return sum;
    }

    private int pairsAlike() {
        int pairs = 0;
        for (int i = 0; i < joiners.length; i++) {
            for (int j = i + 1; j < joiners.length; j++) {
                if (order(joiners[i], joiners[j]) == 0) {
                    pairs++;
                }
            }
        }
        return pairs;
    }

    private boolean tellsItsLength(Joiner joiner) {
        joiner.tell(shown);
        return shown.count == joiner.size();
    }

    /** Whether it does not matter which two of three joiners are merged first. */
    private boolean isMergedAlike(Joiner first, Joiner second) {
        startNew(left, COMMA);
        left.take(first);
        startNew(right, COMMA);
        right.take(first);
        startNew(middle, COMMA);
        middle.take(second);
        startNew(third, COMMA);
        third.lay(wordAt(ABC));
        left.take(middle);
        left.take(third);
        middle.take(third);
        right.take(middle);
        return order(left, right) == 0 && tellsItsLength(left) && tellsItsLength(right);
    }

    /** Whether a joiner that has a piece is the same after one that is not filled was merged into it. */
    private boolean isKeptByUnfilled(Joiner joiner) {
        joiner.tell(row);
        startNew(left, COMMA);
        left.lay(row);
        startNew(right, COMMA);
        right.lay(row);
        startNew(middle, COMMA);
        middle.setEmptyText(row);
        left.take(middle);
        return order(left, right) == 0 && left.size() == right.size();
    }

    private boolean isLaidBehind(Joiner first, Joiner second) {
        startNew(left, NO_SIGNS);
        first.tell(row);
        left.lay(row);
        second.tell(shownOther);
        left.lay(shownOther);
        row.putAll(shownOther);
        left.tell(shown);
        return shown.order(row) == 0;
    }

    private void startNew(Joiner joiner, int between) {
        joiner.start(wordAt(between), wordAt(NO_SIGNS), wordAt(NO_SIGNS));
    }

    /** A row of signs that can grow as far as its room goes; what does not fit is left out. */
    private static final class Signs {
        private final char[] signs;
        private int count = 0;

        Signs(int room) {
            signs = new char[room < 0 ? 0 : room];
        }

        void wipe() {
            count = 0;
        }

        void put(char sign) {
            if (count >= 0 && count < signs.length) {
                signs[count] = sign;
                count++;
            }
        }

        void putString(String text) {
            for (int i = 0; i < text.length(); i++) {
                put(text.charAt(i));
            }
        }

        void putAll(Signs other) {
            putFirst(other, other.count);
        }

        /** Puts the first signs of a row behind this one's; the row may be this one. */
        void putFirst(Signs other, int many) {
            if (many < 0 || many > other.signs.length || many > signs.length - count) {
                return;
            }
            System.arraycopy(other.signs, 0, signs, count, many);
            count += many;
        }

        int codeAt(int place) {
            return place >= 0 && place < count && place < signs.length ? signs[place] : NONE;
        }

        boolean isPartAt(Signs word, int place) {
            for (int k = 0; k < word.count; k++) {
                if (codeAt(place + k) != word.codeAt(k)) {
                    return false;
                }
            }
            return true;
        }

        int firstPlace(Signs word) {
            for (int place = 0; place <= count - word.count; place++) {
                if (isPartAt(word, place)) {
                    return place;
                }
            }
            return NONE;
        }

        int lastPlace(Signs word) {
            for (int place = count - word.count; place >= 0; place--) {
                if (isPartAt(word, place)) {
                    return place;
                }
            }
            return NONE;
        }

        int signHash() {
            int hash = 0;
            for (int i = 0; i < count; i++) {
                hash = 31 * hash + codeAt(i);
            }
            return hash;
        }

        /** -1 if this row is less, 1 if it is greater, 0 if both are the same; behind its end a row has NONE, which is less than every code. */
        int order(Signs other) {
            int longer = count > other.count ? count : other.count;
            for (int i = 0; i < longer; i++) {
                int mine = codeAt(i);
                int others = other.codeAt(i);
                if (mine != others) {
                    return mine < others ? -1 : 1;
                }
            }
            return 0;
        }

        String cut(int from, int to) {
            if (from < 0 || to > count || from >= to) {
                return "";
            }
            char[] taken = new char[to - from];
            for (int i = 0; i < taken.length; i++) {
                taken[i] = (char) codeAt(from + i);
            }
            return new String(taken);
        }
    }

    /** One joiner: its three texts, what is laid between prefix and suffix, and perhaps an empty text. */
    private static final class Joiner {
        private final Signs inside;
        private final Signs emptyText;
        private Signs between;
        private Signs prefix;
        private Signs suffix;
        private boolean isFilled = false;
        private boolean hasEmptyText = false;

        Joiner(int room, Signs between, Signs prefix, Signs suffix) {
            inside = new Signs(room);
            emptyText = new Signs(room);
            this.between = between;
            this.prefix = prefix;
            this.suffix = suffix;
        }

        void start(Signs newBetween, Signs newPrefix, Signs newSuffix) {
            between = newBetween;
            prefix = newPrefix;
            suffix = newSuffix;
            inside.wipe();
            isFilled = false;
            hasEmptyText = false;
        }

        void lay(Signs piece) {
            // The piece may be the inside itself, which the between makes longer.
            int many = piece.count;
            if (isFilled) {
                inside.putAll(between);
            }
            inside.putFirst(piece, many);
            isFilled = true;
        }

        void take(Joiner other) {
            if (other.isFilled) {
                lay(other.inside);
            }
        }

        void setEmptyText(Signs text) {
            emptyText.wipe();
            emptyText.putAll(text);
            hasEmptyText = true;
        }

        boolean tellsEmptyText() {
            return !isFilled && hasEmptyText;
        }

        int size() {
            return tellsEmptyText() ? emptyText.count : prefix.count + inside.count + suffix.count;
        }

        /** How long the text is with one more piece of that length. */
        int sizeWith(int many) {
            int more = isFilled ? between.count + many : many;
            return prefix.count + inside.count + more + suffix.count;
        }

        void tell(Signs into) {
            into.wipe();
            if (tellsEmptyText()) {
                into.putAll(emptyText);
                return;
            }
            into.putAll(prefix);
            into.putAll(inside);
            into.putAll(suffix);
        }
    }
}
