/**
 * Each sentence of the document that names an edge, with the values just inside and just outside of it. The label of a
 * check begins with the promise's number, or with the part of the description (D1 texts, D2 joiners).
 */
public final class JoinrowEdges {
    private static final String NO_JOINER = "throws IndexOutOfBoundsException";
    private static final String WRONG = "throws IllegalArgumentException";
    private static final String TOO_LONG = "throws IllegalStateException";
    private static final String[] MARKS = {",", ", ", "-", "::", "[", "]", "(", ")", "{}", "null"};
    private static final String LETTERS = "abcdefghijklmnopqrstuvwxyz";
    /** WORDS of 0, 1, 2 and 4 signs. */
    private static final int[] SIZED = {0, 60, 61, 69};
    private static final int LIMIT = 300;

    private static int wrong = 0;
    private static Joinrow x;

    private interface Call {
        Object answer();
    }

    private static void due(String call, Object want, Call got) {
        String answered;
        try {
            answered = String.valueOf(got.answer());
        } catch (RuntimeException thrown) {
            answered = "throws " + thrown.getClass().getSimpleName();
        }
        if (!answered.equals(String.valueOf(want))) {
            wrong++;
            System.out.println(call + " answered " + answered + ", due is " + want);
        }
    }

    private static void tells(String label, int joiner, String want) {
        due(label + ": text(" + joiner + ")", want, () -> x.text(joiner));
        due(label + ": length(" + joiner + ")", want.length(), () -> x.length(joiner));
    }

    private static String spelled(int word) {
        return word >= 60 ? MARKS[word - 60] : LETTERS.substring(word / 4, word / 4 + word % 4);
    }

    /** Makes a joiner tell so many signs, without BETWEEN, PREFIX and SUFFIX; FILLED also if there are none. */
    private static String pile(int joiner, int many) {
        StringBuilder piled = new StringBuilder();
        x.begin(joiner, 0);
        x.add(joiner, 0);
        for (int left = many; left > 0; left -= 4) {
            int word = left >= 4 ? 69 : left;
            x.add(joiner, word);
            piled.append(spelled(word));
        }
        return piled.toString();
    }

    public static void main(String[] args) {
        wordsAreLaid();
        wordsStandToEachOther();
        longTextsStandToEachOther();
        hashesWrapAround();
        newJoiners();
        filledByNothing();
        limitOfFirstPiece();
        limitOfNextPiece();
        limitOfNumbers();
        limitOfRows();
        limitIsNotOfEmptyText();
        limitIsNotOfUnfilled();
        beginning();
        beginningWithAll();
        beginningWithNothing();
        twins();
        numbers();
        rowsThatChange();
        textsAsPieces();
        merges();
        emptyTexts();
        textsAsEmptyTexts();
        places();
        findings();
        parts();
        sames();
        wouldBe();
        wouldBeAsMerged();
        knocks();
        house();
        sound();
        digests();
        asksChangeNothing();
        lastCall();
        System.out.println(wrong == 0 ? "all answers are as due" : wrong + " answers are not as due");
        System.exit(wrong == 0 ? 0 : 1);
    }

    // Description

    private static void wordsAreLaid() {
        for (int number = 0; number < 70; number++) {
            int w = number;
            int v = 69 - number;
            x = new Joinrow();
            due("25 word(" + w + ")", spelled(w), () -> x.word(w));
            x.beginWith(0, w, v, w);
            tells("D1 WORD " + w + " and " + v + " ahead", 0, spelled(v) + spelled(w));
            x.add(0, v);
            x.add(0, w);
            tells("D1 WORD " + w + " between", 0, spelled(v) + spelled(v) + spelled(w) + spelled(w) + spelled(w));
            x.empty(1, w);
            tells("D1 WORD " + w + " as EMPTY text", 1, spelled(w));
            x.begin(2, w);
            x.addRow(2, v, w);
            x.addRow(2, w, v);
            tells("D1 WORD " + w + " in rows", 2, spelled(v) + spelled(w) + spelled(w) + spelled(w) + spelled(v));
            due("D1 WORD " + w + " found", 0, () -> x.find(1, w, false));
        }
    }

    private static void wordsStandToEachOther() {
        for (int one = 0; one < 70; one++) {
            x = new Joinrow();
            x.empty(0, one);
            for (int two = 0; two < 70; two++) {
                x.empty(1, two);
                int order = Integer.signum(spelled(one).compareTo(spelled(two)));
                String both = spelled(one) + " and " + spelled(two);
                due("D1, 23 compare of " + both, order, () -> x.compare(0, 1));
                due("D1, 23 compare turned round of " + both, -order, () -> x.compare(1, 0));
                due("D1, 22 isSame of " + both, order == 0, () -> x.isSame(0, 1));
            }
        }
    }

    /** The last sign alone makes the difference, or that there is none. */
    private static void longTextsStandToEachOther() {
        x = new Joinrow();
        pile(0, 299);
        x.twin(0, 1);
        x.twin(0, 2);
        x.add(0, 1);
        x.add(1, 5);
        due("D1 compare of a and b at place 299", -1, () -> x.compare(0, 1));
        due("D1 compare of b and a at place 299", 1, () -> x.compare(1, 0));
        due("D1 compare of 299 signs and 300", -1, () -> x.compare(2, 0));
        due("D1 compare of 300 signs and 299", 1, () -> x.compare(0, 2));
        due("D1 isSame of 299 signs and 300", false, () -> x.isSame(0, 2));
        x.add(2, 1);
        due("D1 compare of 300 signs", 0, () -> x.compare(0, 2));
        due("D1 isSame of 300 signs", true, () -> x.isSame(0, 2));
        x.begin(3, 0);
        x.add(3, 5);
        due("D1 compare of b and a long one", -1, () -> x.compare(3, 0));
        x.begin(3, 0);
        x.add(3, 57);
        due("D1 compare of o and a long one", 1, () -> x.compare(3, 0));
    }

    private static int hashOf(String text) {
        long hash = 0;
        for (int i = 0; i < text.length(); i++) {
            hash = (31 * hash + text.charAt(i)) & 0xFFFFFFFFL;
        }
        return (int) hash;
    }

    /** Five signs stay below 2 to the 31, six do not; a longer one goes round many times. */
    private static void hashesWrapAround() {
        x = new Joinrow();
        x.begin(0, 0);
        due("21 HASH of nothing", 0, () -> x.hash(0));
        boolean isBelow = false;
        StringBuilder told = new StringBuilder();
        for (int i = 0; i < 75; i++) {
            told.append("opq");
            x.add(0, 59);
            int want = hashOf(told.toString());
            isBelow |= want < 0;
            due("21 HASH of " + told.length() + " signs", want, () -> x.hash(0));
        }
        boolean wasBelow = isBelow;
        due("21 a HASH below 0", true, () -> wasBelow);
        x.beginWith(1, 60, 66, 69);
        due("21 HASH of a PREFIX and a SUFFIX", hashOf("(null"), () -> x.hash(1));
        x.empty(1, 69);
        due("21 HASH of an EMPTY text", hashOf("null"), () -> x.hash(1));
    }

    private static void newJoiners() {
        x = new Joinrow();
        String[] want = new String[6];
        for (int i = 0; i < 6; i++) {
            tells("1 new", i, "[]");
            int a = i;
            due("1 not FILLED", 2, () -> x.would(a, 5 - a));
        }
        for (int i = 0; i < 6; i++) {
            x.addRow(i, 4 * i + 1, 0);
            x.add(i, 4 * i + 3);
            want[i] = "[" + spelled(4 * i + 1) + "," + spelled(4 * i + 3) + "]";
        }
        for (int i = 0; i < 6; i++) {
            tells("D2 each its own", i, want[i]);
        }
        due("1 nobody knocked", 0, () -> x.house(1));
        due("1 nothing was refused", 0, () -> x.house(2));
        due("1 sound", true, () -> x.isSound());
        Joinrow other = new Joinrow();
        due("1 another object", "[]", () -> other.text(0));
    }

    /** Each way to lay "", and each of them as the first one: then the EMPTY text is not told. */
    private static void filledByNothing() {
        for (int way = 0; way < 5; way++) {
            String label = "D2 FILLED by \"\", way " + way;
            x = new Joinrow();
            x.begin(1, 0);
            x.begin(2, 0);
            x.add(2, 0);
            x.begin(0, 60);
            x.empty(0, 3);
            tells(label, 0, "abc");
            layNothing(way);
            tells(label, 0, "");
            due(label + ": would", 1, () -> x.would(0, 2));
            layNothing(way);
            tells(label + " twice", 0, ",");
            x.begin(0, 60);
            x.empty(0, 3);
            tells(label + ", begun anew", 0, "abc");
            due(label + ", begun anew: would", 2, () -> x.would(3, 0));
        }
    }

    private static void layNothing(int way) {
        switch (way) {
            case 0: x.add(0, 0); break;
            case 1: x.add(0, 56); break;
            case 2: x.addRow(0, 0, 4); break;
            case 3: x.addText(0, 1); break;
            default: x.merge(0, 2);
        }
    }

    /** A first PIECE needs no BETWEEN: it may be as long as PREFIX and SUFFIX leave it. */
    private static void limitOfFirstPiece() {
        for (int prefix : SIZED) {
            for (int suffix : SIZED) {
                int room = LIMIT - spelled(prefix).length() - spelled(suffix).length();
                String label = "D2 limit, first piece between " + spelled(prefix) + " and " + spelled(suffix);
                x = new Joinrow();
                String piled = pile(5, room);
                x.beginWith(0, 69, prefix, suffix);
                x.beginWith(1, 69, prefix, suffix);
                due(label + ": addText", LIMIT, () -> x.addText(0, 5));
                due(label + ": merge", LIMIT, () -> x.merge(1, 5));
                tells(label, 0, spelled(prefix) + piled + spelled(suffix));
                tells(label, 1, spelled(prefix) + piled + spelled(suffix));
                if (room < LIMIT) {
                    x.add(5, 1);
                    x.beginWith(0, 69, prefix, suffix);
                    due(label + ": addText too long", TOO_LONG, () -> x.addText(0, 5));
                    due(label + ": merge too long", TOO_LONG, () -> x.merge(0, 5));
                    tells(label + " too long", 0, spelled(prefix) + spelled(suffix));
                }
            }
        }
    }

    /** A next PIECE comes behind a BETWEEN, which counts. */
    private static void limitOfNextPiece() {
        for (int between : SIZED) {
            for (int piece : new int[] {0, 1, 2, 3, 69}) {
                String label = "D2 limit, \"" + spelled(piece) + "\" behind \"" + spelled(between) + "\"";
                int inside = LIMIT - 3 - spelled(between).length() - spelled(piece).length();
                fullButFor(between, inside);
                due(label + ": add", LIMIT, () -> x.add(0, piece));
                fullButFor(between, inside);
                due(label + ": addRow", LIMIT, () -> x.addRow(0, 0, piece));
                fullButFor(between, inside);
                x.empty(1, piece);
                due(label + ": addText", LIMIT, () -> x.addText(0, 1));
                fullButFor(between, inside);
                x.beginWith(1, 69, 69, 69);
                x.add(1, piece);
                due(label + ": would", LIMIT, () -> x.would(0, 1));
                due(label + ": merge", LIMIT, () -> x.merge(0, 1));
                if (between != 0 || piece != 0) {
                    outsideOfLimit(label, between, piece, inside + 1);
                }
            }
        }
    }

    private static void outsideOfLimit(String label, int between, int piece, int inside) {
        String piled = fullButFor(between, inside);
        x.empty(1, piece);
        x.beginWith(2, 69, 69, 69);
        x.add(2, piece);
        due(label + ": add too long", TOO_LONG, () -> x.add(0, piece));
        due(label + ": addRow too long", TOO_LONG, () -> x.addRow(0, piece, 0));
        due(label + ": addText too long", TOO_LONG, () -> x.addText(0, 1));
        due(label + ": merge too long", TOO_LONG, () -> x.merge(0, 2));
        due(label + ": would", LIMIT + 1, () -> x.would(0, 2));
        tells(label + " too long", 0, "[" + piled + "{}");
        if (piece == 69) {
            due(label + ": addNothing too long", TOO_LONG, () -> x.addNothing(0));
            fullButFor(between, inside - 1);
            due(label + ": addNothing", LIMIT, () -> x.addNothing(0));
        }
    }

    /** A new object whose joiner 0 is FILLED, with an INSIDE of that length, "[" ahead and "{}" behind. */
    private static String fullButFor(int between, int inside) {
        x = new Joinrow();
        String piled = pile(5, inside);
        x.beginWith(0, between, 64, 68);
        x.addText(0, 5);
        return piled;
    }

    private static void limitOfNumbers() {
        int[] numbers = {0, 9, -1, 10, 99, -10, 100, 1000000000, Integer.MAX_VALUE, -1000000000, Integer.MIN_VALUE};
        for (int number : numbers) {
            String label = "7 limit, " + number;
            int inside = LIMIT - 3 - 1 - String.valueOf(number).length();
            String piled = fullButFor(60, inside);
            due(label + ": addNumber", LIMIT, () -> x.addNumber(0, number));
            tells(label, 0, "[" + piled + "," + number + "{}");
            piled = fullButFor(60, inside + 1);
            due(label + ": addNumber too long", TOO_LONG, () -> x.addNumber(0, number));
            tells(label + " too long", 0, "[" + piled + "{}");
        }
    }

    private static void limitOfRows() {
        for (int one : SIZED) {
            for (int two : SIZED) {
                String row = spelled(one) + spelled(two);
                String label = "9 limit, " + row;
                String piled = fullButFor(60, LIMIT - 3 - 1 - row.length());
                due(label + ": addRow", LIMIT, () -> x.addRow(0, one, two));
                tells(label, 0, "[" + piled + "," + row + "{}");
                piled = fullButFor(60, LIMIT - 3 - row.length());
                due(label + ": addRow too long", TOO_LONG, () -> x.addRow(0, one, two));
                tells(label + " too long", 0, "[" + piled + "{}");
            }
        }
    }

    /** The limit is one of INSIDE with PREFIX and SUFFIX; an EMPTY text stands without both. */
    private static void limitIsNotOfEmptyText() {
        x = new Joinrow();
        String piled = pile(5, LIMIT);
        x.beginWith(0, 60, 69, 69);
        due("14 EMPTY text of 300 signs", LIMIT, () -> x.emptyText(0, 5));
        tells("14 EMPTY text of 300 signs", 0, piled);
        due("6 a PIECE ahead of a long EMPTY text", 9, () -> x.add(0, 1));
        tells("6 a PIECE ahead of a long EMPTY text", 0, "nullanull");
        due("14 EMPTY text of a full one", LIMIT, () -> x.emptyText(5, 0));
        due("14 EMPTY text of a full one, its own TEXT", LIMIT, () -> x.emptyText(5, 5));
        tells("14 EMPTY text of a full one", 5, piled);
    }

    private static void limitIsNotOfUnfilled() {
        x = new Joinrow();
        String piled = pile(5, LIMIT);
        x.beginWith(0, 69, 69, 69);
        due("11 merge of one that is not FILLED", LIMIT, () -> x.merge(5, 0));
        x.emptyText(0, 5);
        due("11 merge of one that is not FILLED, with a long EMPTY text", LIMIT, () -> x.merge(5, 0));
        due("24 would of one that is not FILLED", LIMIT, () -> x.would(5, 0));
        tells("11 merge of one that is not FILLED", 5, piled);
        due("11 both not FILLED", 2, () -> x.merge(1, 0));
        tells("11 both not FILLED", 1, "[]");
        due("11 not FILLED into itself", LIMIT, () -> x.merge(0, 0));
        tells("11 not FILLED into itself", 0, piled);
        due("6 \"\" laid behind \"\" when full", LIMIT, () -> x.add(5, 0));
        x.begin(0, 69);
        x.add(0, 0);
        due("11 \"\" merged behind \"\" when full", LIMIT, () -> x.merge(5, 0));
    }

    // begun

    private static void beginning() {
        for (int joiner = 0; joiner < 6; joiner++) {
            int a = joiner;
            x = new Joinrow();
            due("2 begin, as new", 2, () -> x.begin(a, 69));
            tells("2 begin", a, "");
            due("2 begin, of nothing", 0, () -> x.begin(a, 0));
            x.empty(a, 3);
            due("2 begin, of an EMPTY text", 3, () -> x.begin(a, 0));
            tells("2 begin, without EMPTY text", a, "");
            pile(a, LIMIT);
            due("2 begin, of a full one", LIMIT, () -> x.begin(a, 62));
            tells("2 begin, without PIECES", a, "");
            x.add(a, 1);
            tells("2 begin, first PIECE", a, "a");
            x.add(a, 2);
            tells("2 begin, BETWEEN", a, "a-ab");
            x.beginWith(a, 61, 69, 68);
            due("2 begin, of PREFIX and SUFFIX", 6, () -> x.begin(a, 63));
            x.add(a, 0);
            tells("2 begin, without PREFIX and SUFFIX", a, "");
            due("2 begin, others stay", 10, () -> x.house(0));
        }
    }

    private static void beginningWithAll() {
        x = new Joinrow();
        for (int w = 0; w < 70; w += 69) {
            int edge = w;
            int was = x.length(0);
            due("3 beginWith, BETWEEN " + edge, was, () -> x.beginWith(0, edge, 1, 2));
            due("3 beginWith, PREFIX " + edge, 3, () -> x.beginWith(0, 1, edge, 2));
            due("3 beginWith, SUFFIX " + edge, 2 + spelled(edge).length(), () -> x.beginWith(0, 1, 2, edge));
            tells("3 beginWith, SUFFIX " + edge, 0, "ab" + spelled(edge));
        }
        x.beginWith(1, 60, 0, 68);
        x.emptyText(1, 0);
        due("3 beginWith, of an EMPTY text", 6, () -> x.beginWith(1, 61, 66, 67));
        tells("3 beginWith, without EMPTY text", 1, "()");
        x.add(1, 1);
        x.add(1, 5);
        due("3 beginWith, of PIECES", 6, () -> x.beginWith(1, 61, 67, 66));
        tells("3 beginWith, without PIECES", 1, ")(");
        x.add(1, 0);
        tells("3 beginWith, not FILLED before", 1, ")(");
        x.add(1, 0);
        tells("3 beginWith, BETWEEN", 1, "), (");
    }

    private static void beginningWithNothing() {
        x = new Joinrow();
        for (int which = -1; which <= 3; which++) {
            int n = which;
            Object want = n < 0 || n > 2 ? WRONG : -9;
            due("4 beginNothing(0, " + n + ")", want, () -> x.beginNothing(0, n));
            due("4 beginNothing(5, " + n + ")", want, () -> x.beginNothing(5, n));
            due("4 beginNothing(6, " + n + ")", NO_JOINER, () -> x.beginNothing(6, n));
            due("4 beginNothing(-1, " + n + ")", NO_JOINER, () -> x.beginNothing(-1, n));
        }
        due("4 refused six times", 6, () -> x.house(2));
        tells("4 as before", 0, "[]");
    }

    private static void twins() {
        x = new Joinrow();
        x.beginWith(0, 61, 66, 67);
        x.empty(0, 3);
        x.add(1, 1);
        due("5 twin of one that is not FILLED", 2, () -> x.twin(0, 1));
        tells("5 its EMPTY text is not the other's", 1, "()");
        tells("5 this one stays", 0, "abc");
        due("5 not FILLED either", 2, () -> x.would(2, 1));
        x.empty(1, 69);
        due("5 twin drops the other's EMPTY text", 2, () -> x.twin(0, 1));
        x.add(0, 0);
        due("5 twin of a PIECE that is nothing", 2, () -> x.twin(0, 1));
        x.add(1, 0);
        tells("5 FILLED by it", 1, "(, )");
        tells("5 this one stays as it was", 0, "()");
        pile(2, LIMIT);
        due("5 twin of a full one", LIMIT, () -> x.twin(2, 3));
        due("5 twin of a full one into a full one", LIMIT, () -> x.twin(3, 2));
        due("5 both full", TOO_LONG, () -> x.add(3, 1));
        x.add(4, 1);
        x.add(4, 5);
        x.twin(4, 5);
        x.begin(4, 62);
        tells("5 on its own then", 5, "[a,b]");
        x.add(5, 9);
        tells("5 with the three texts", 5, "[a,b,c]");
        tells("5 the model begun anew", 4, "");
        for (int a = 0; a < 6; a++) {
            int same = a;
            due("5 twin(" + a + ", " + a + ")", WRONG, () -> x.twin(same, same));
        }
    }

    // pieces

    private static void numbers() {
        int[] numbers = {0, 1, -1, 9, 10, -9, -10, 99, 100, 255, 256, -256, 65535, 65536, 999999999, 1000000000,
            Integer.MAX_VALUE - 1, Integer.MAX_VALUE, Integer.MIN_VALUE + 1, Integer.MIN_VALUE};
        for (int number : numbers) {
            x = new Joinrow();
            String told = "[" + number + "]";
            due("7 addNumber(" + number + ")", told.length(), () -> x.addNumber(0, number));
            tells("7 addNumber(" + number + ")", 0, told);
            due("7 addNumber(" + number + ") again", 2 * told.length() - 1, () -> x.addNumber(0, number));
            tells("7 addNumber(" + number + ") again", 0, "[" + number + "," + number + "]");
        }
    }

    /** What was laid stays when the row that bore it bears others. */
    private static void rowsThatChange() {
        x = new Joinrow();
        x.addRow(0, 3, 69);
        x.addRow(1, 59, 58);
        x.addNumber(2, -12345);
        x.emptyText(3, 2);
        x.isSound();
        x.addRow(4, 0, 0);
        x.addText(5, 4);
        tells("9 the row was changed", 0, "[abcnull]");
        tells("9 the row was changed", 1, "[opqop]");
        tells("9 the row was changed", 2, "[-12345]");
        tells("9 the row was changed", 3, "[-12345]");
        x.addRow(0, 2, 9);
        tells("9 one PIECE of two WORDS", 0, "[abcnull,abc]");
        due("9 the second one a WORD of none", WRONG, () -> x.addRow(0, 1, 70));
        due("9 the first one a WORD of none", WRONG, () -> x.addRow(0, -1, 1));
        tells("9 nothing of it is laid", 0, "[abcnull,abc]");
    }

    private static void textsAsPieces() {
        x = new Joinrow();
        due("10 its own TEXT without PIECES", 4, () -> x.addText(0, 0));
        tells("10 its own TEXT without PIECES", 0, "[[]]");
        due("10 its own TEXT", 9, () -> x.addText(0, 0));
        tells("10 its own TEXT", 0, "[[],[[]]]");
        x.empty(1, 3);
        due("10 its own EMPTY text", 5, () -> x.addText(1, 1));
        tells("10 its own EMPTY text", 1, "[abc]");
        x.empty(2, 69);
        due("10 another one's EMPTY text", 10, () -> x.addText(1, 2));
        tells("10 another one's EMPTY text", 1, "[abc,null]");
        tells("10 the other one stays", 2, "null");
        x.begin(3, 0);
        due("10 a TEXT of nothing", 11, () -> x.addText(1, 3));
        x.addText(4, 1);
        x.add(1, 1);
        tells("10 as it was", 4, "[[abc,null,]]");
        x = new Joinrow();
        String half = pile(0, 150);
        due("10 its own TEXT to the limit", LIMIT, () -> x.addText(0, 0));
        tells("10 its own TEXT to the limit", 0, half + half);
        pile(0, 150);
        x.add(0, 1);
        due("10 its own TEXT behind the limit", TOO_LONG, () -> x.addText(0, 0));
        tells("10 its own TEXT behind the limit", 0, half + "a");
    }

    private static void merges() {
        x = new Joinrow();
        x.beginWith(0, 62, 69, 69);
        x.add(0, 1);
        x.add(0, 5);
        due("11 INSIDE alone, with its own BETWEEN", 5, () -> x.merge(1, 0));
        tells("11 INSIDE alone, with its own BETWEEN", 1, "[a-b]");
        due("11 behind a BETWEEN", 9, () -> x.merge(1, 0));
        tells("11 behind a BETWEEN", 1, "[a-b,a-b]");
        tells("11 the other one stays", 0, "nulla-bnull");
        due("11 into itself", 15, () -> x.merge(0, 0));
        tells("11 into itself", 0, "nulla-b-a-bnull");
        x.add(1, 9);
        tells("11 BETWEEN stays", 1, "[a-b,a-b,c]");
        x.empty(2, 3);
        x.empty(0, 3);
        due("11 an EMPTY text is none of the PIECES", 3, () -> x.merge(2, 3));
        tells("11 an EMPTY text is none of the PIECES", 2, "abc");
        due("11 FILLED by it", 9, () -> x.merge(2, 0));
        tells("11 FILLED by it", 2, "[a-b-a-b]");
        x = new Joinrow();
        String half = pile(0, 148);
        x.beginWith(1, 69, 0, 0);
        x.merge(1, 0);
        due("11 into itself to the limit", LIMIT, () -> x.merge(1, 1));
        tells("11 into itself to the limit", 1, half + "null" + half);
        x.add(0, 1);
        x.beginWith(1, 61, 0, 60);
        x.merge(1, 0);
        due("24 into itself behind the limit", LIMIT + 1, () -> x.would(1, 1));
        due("11 into itself behind the limit", TOO_LONG, () -> x.merge(1, 1));
        tells("11 into itself behind the limit", 1, half + "a,");
    }

    private static void emptyTexts() {
        x = new Joinrow();
        due("13 \"\" as EMPTY text", 0, () -> x.empty(0, 0));
        tells("13 \"\" as EMPTY text", 0, "");
        due("13 another one", 4, () -> x.empty(0, 69));
        tells("13 another one", 0, "null");
        due("13 a shorter one", 1, () -> x.empty(0, 1));
        tells("13 a shorter one", 0, "a");
        tells("13 of one joiner alone", 1, "[]");
        x.add(0, 0);
        tells("13 not told when FILLED", 0, "[]");
        due("13 when FILLED", 2, () -> x.empty(0, 3));
        tells("13 when FILLED", 0, "[]");
        x.beginWith(0, 60, 64, 65);
        tells("13 dropped when begun anew", 0, "[]");
        x.empty(0, 3);
        due("15 emptyNothing", -9, () -> x.emptyNothing(0));
        due("12 mergeNothing", -9, () -> x.mergeNothing(0));
        tells("15 the EMPTY text stays", 0, "abc");
        due("12, 15 refused twice", 2, () -> x.house(2));
    }

    private static void textsAsEmptyTexts() {
        x = new Joinrow();
        due("14 its own TEXT", 2, () -> x.emptyText(0, 0));
        due("14 its own EMPTY text", 2, () -> x.emptyText(0, 0));
        x.beginWith(1, 61, 66, 67);
        x.emptyText(0, 1);
        x.add(1, 1);
        tells("14 as it was", 0, "()");
        due("14 another one's EMPTY text", 2, () -> x.emptyText(2, 0));
        tells("14 another one's EMPTY text", 2, "()");
        x.begin(0, 0);
        tells("14 as it was, too", 2, "()");
        due("14 when FILLED", 3, () -> x.emptyText(1, 3));
        tells("14 when FILLED", 1, "(a)");
        due("14 a TEXT of nothing", 0, () -> x.emptyText(4, 0));
        tells("14 a TEXT of nothing", 4, "");
        due("14 not FILLED by it", 3, () -> x.would(1, 4));
        due("14 a TEXT of PIECES", 3, () -> x.emptyText(4, 1));
        tells("14 a TEXT of PIECES", 4, "(a)");
    }

    // what is asked

    private static void placesOf(String label, int joiner, String text) {
        due(label + ": at(-1)", NO_JOINER, () -> x.at(joiner, -1));
        for (int i = 0; i < text.length(); i++) {
            int place = i;
            due(label + ": at(" + i + ")", (int) text.charAt(i), () -> x.at(joiner, place));
        }
        due(label + ": at(" + text.length() + ")", NO_JOINER, () -> x.at(joiner, text.length()));
    }

    private static void places() {
        x = new Joinrow();
        placesOf("18 new", 5, "[]");
        x.begin(0, 60);
        placesOf("18 nothing", 0, "");
        x.empty(0, 69);
        placesOf("18 EMPTY text", 0, "null");
        x.add(0, 0);
        placesOf("18 a PIECE that is nothing", 0, "");
        x.add(0, 3);
        placesOf("18 BETWEEN first", 0, ",abc");
        placesOf("18 full", 1, pile(1, LIMIT));
    }

    private static void findIn(String label, int joiner, String text) {
        for (int number : new int[] {0, 1, 2, 3, 4, 5, 6, 7, 9, 59, 60, 61, 62, 63, 64, 65, 68, 69}) {
            int w = number;
            String word = spelled(w);
            due(label + ": find first " + word, text.indexOf(word), () -> x.find(joiner, w, false));
            due(label + ": find last " + word, text.lastIndexOf(word), () -> x.find(joiner, w, true));
        }
        due(label + ": find \"\" first", 0, () -> x.find(joiner, 0, false));
        due(label + ": find \"\" last", text.length(), () -> x.find(joiner, 0, true));
    }

    private static void findings() {
        x = new Joinrow();
        findIn("19 new", 0, "[]");
        x.begin(1, 63);
        findIn("19 nothing", 1, "");
        x.add(1, 1);
        findIn("19 a word of its length", 1, "a");
        x.add(1, 2);
        x.add(1, 3);
        x.add(1, 2);
        findIn("19 the beginning of a word at the end", 1, "a::ab::abc::ab");
        x.begin(2, 1);
        x.add(2, 0);
        x.add(2, 0);
        x.add(2, 2);
        findIn("19 words that begin again", 2, "aaab");
        x.begin(3, 63);
        x.add(3, 0);
        x.add(3, 0);
        x.add(3, 0);
        findIn("19 one into the other", 3, "::::");
        x = new Joinrow();
        x.beginWith(0, 0, 3, 3);
        x.addText(0, 0);
        findIn("19 at both ends", 0, "abcabcabcabc");
        String piled = pile(1, LIMIT);
        findIn("19 full", 1, piled);
        x.add(2, 5);
        findIn("19 none", 2, "[b]");
        due("19 NONE", -1, () -> x.find(2, 1, true));
    }

    private static void parts() {
        x = new Joinrow();
        x.add(0, 3);
        x.begin(1, 0);
        partsOf("20 PIECE", 0, "[abc]");
        partsOf("20 nothing", 1, "");
        x.empty(1, 2);
        partsOf("20 EMPTY text", 1, "ab");
        String piled = pile(2, LIMIT);
        due("20 all", piled, () -> x.part(2, 0, LIMIT));
        due("20 the last one", "l", () -> x.part(2, LIMIT - 1, LIMIT));
        due("20 behind the last one", "", () -> x.part(2, LIMIT, LIMIT));
        due("20 above how long it is", WRONG, () -> x.part(2, 0, LIMIT + 1));
        due("20 from above to", WRONG, () -> x.part(2, LIMIT, LIMIT - 1));
    }

    private static void partsOf(String label, int joiner, String text) {
        for (int i = -1; i <= text.length() + 1; i++) {
            for (int j = -1; j <= text.length() + 1; j++) {
                int from = i;
                int to = j;
                Object want = from < 0 || to > text.length() || from > to ? WRONG : text.substring(from, to);
                due(label + ": part(" + from + ", " + to + ")", want, () -> x.part(joiner, from, to));
            }
        }
    }

    private static void sames() {
        x = new Joinrow();
        x.empty(1, 64);
        x.begin(2, 0);
        x.addRow(2, 64, 65);
        x.begin(3, 65);
        x.add(3, 64);
        x.add(3, 0);
        x.beginWith(4, 60, 64, 0);
        String[] texts = {"[]", "[", "[]", "[]", "[", "[]"};
        for (int i = 0; i < 6; i++) {
            for (int j = 0; j < 6; j++) {
                int a = i;
                int b = j;
                due("22 isSame(" + a + ", " + b + ")", texts[a].equals(texts[b]), () -> x.isSame(a, b));
                due("23 compare(" + a + ", " + b + ")", texts[a].compareTo(texts[b]), () -> x.compare(a, b));
            }
        }
    }

    private static void wouldBe() {
        x = new Joinrow();
        pile(0, LIMIT);
        x.beginWith(1, 60, 64, 0);
        due("24 one above the limit", LIMIT + 1, () -> x.would(1, 0));
        x.beginWith(1, 60, 69, 69);
        due("24 not FILLED", LIMIT + 8, () -> x.would(1, 0));
        x.begin(1, 0);
        due("24 at the limit", LIMIT, () -> x.would(1, 0));
        due("24 itself", 2 * LIMIT, () -> x.would(0, 0));
        x.beginWith(2, 69, 69, 69);
        pile(3, LIMIT - 8);
        x.merge(2, 3);
        due("24 the most", LIMIT + 4 + LIMIT, () -> x.would(2, 0));
        due("24 INSIDE alone is laid", LIMIT + 4 + LIMIT - 8, () -> x.would(2, 2));
        x.empty(1, 3);
        due("24 the EMPTY text is not told then", LIMIT, () -> x.would(1, 0));
        due("24 the EMPTY text is told still", 3, () -> x.would(1, 4));
        due("24 both not FILLED", 3, () -> x.would(1, 1));
        due("24 of one not FILLED, with an EMPTY text", 2, () -> x.would(4, 1));
        tells("24 nothing changes", 1, "abc");
        due("24 nothing changes", LIMIT, () -> x.length(0));
    }

    /** merge answers what would told, or throws if that is above 300. */
    private static void wouldBeAsMerged() {
        for (int first = 0; first < 6; first++) {
            for (int second = 0; second < 6; second++) {
                x = new Joinrow();
                x.beginWith(0, 63, 66, 67);
                x.addNumber(0, -100);
                x.empty(1, 3);
                x.add(2, 0);
                pile(3, LIMIT);
                pile(4, 150);
                int a = first;
                int b = second;
                int size = x.would(a, b);
                due("24 would, then merge(" + a + ", " + b + ")", size > LIMIT ? TOO_LONG : size, () -> x.merge(a, b));
            }
        }
    }

    // the whole

    private static void knocks() {
        x = new Joinrow();
        due("27 before a knock", 0, () -> x.house(1));
        for (int i = 1; i <= 510; i++) {
            int often = i;
            due("26 knock", often, () -> x.knock());
        }
        due("27 behind 510 knocks", 510, () -> x.house(1));
    }

    private static void house() {
        x = new Joinrow();
        for (int i = 0; i < 6; i++) {
            x.begin(i, 0);
        }
        due("27 all of nothing", 0, () -> x.house(0));
        due("27 all the same", 15, () -> x.house(3));
        int[] pairs = {10, 6, 3, 1, 0};
        for (int i = 0; i < 5; i++) {
            int w = 4 * i + 1;
            int many = i + 1;
            x.empty(i, w);
            due("27 how long together", many, () -> x.house(0));
            due("27 pairs", pairs[many - 1], () -> x.house(3));
        }
        pile(0, LIMIT);
        for (int i = 1; i < 6; i++) {
            x.twin(0, i);
        }
        due("27 all full", 6 * LIMIT, () -> x.house(0));
        due("27 all full and the same", 15, () -> x.house(3));
        x.add(0, 0);
        due("27 nobody knocked", 0, () -> x.house(1));
        due("27 nothing was refused", 0, () -> x.house(2));
        for (int i = 1; i <= 3; i++) {
            int often = i;
            due("27 refused", -9, () -> x.mergeNothing(often));
            due("27 how often refused", often, () -> x.house(2));
        }
        due("27 too long is not refused in that way", TOO_LONG, () -> x.add(0, 1));
        due("27 how often refused, behind an exception", 3, () -> x.house(2));
        for (int what : new int[] {-1, 4}) {
            due("27 house(" + what + ")", WRONG, () -> x.house(what));
        }
    }

    private static void sound() {
        x = new Joinrow();
        due("28 new", true, () -> x.isSound());
        pile(0, LIMIT);
        for (int i = 1; i < 6; i++) {
            x.twin(0, i);
        }
        due("28 all full", true, () -> x.isSound());
        for (int i = 0; i < 6; i++) {
            x.begin(i, 0);
            due("28 nothing", true, () -> x.isSound());
            x.empty(i, 69);
            due("28 EMPTY texts", true, () -> x.isSound());
        }
        for (int i = 0; i < 6; i++) {
            x.beginWith(i, 69, 69, 69);
            due("28 begun", true, () -> x.isSound());
            x.add(i, 0);
            due("28 a PIECE that is nothing", true, () -> x.isSound());
            x.merge(i, i);
            due("28 merged into itself", true, () -> x.isSound());
        }
    }

    private static long digestDue() {
        long d = 7776;
        for (int what = 0; what < 4; what++) {
            d = d * 31 + x.house(what);
        }
        for (int i = 0; i < 6; i++) {
            String text = x.text(i);
            int[] asked = {text.length(), hashOf(text), text.indexOf("a"), text.lastIndexOf("a"), text.indexOf(","),
                text.lastIndexOf(",")};
            for (int v : asked) {
                d = d * 31 + v;
            }
        }
        for (int i = 0; i < 6; i++) {
            for (int j = i + 1; j < 6; j++) {
                d = d * 31 + Integer.signum(x.text(i).compareTo(x.text(j)));
                d = d * 31 + x.would(i, j);
            }
        }
        return d * 31 + 1;
    }

    private static void digests() {
        x = new Joinrow();
        due("29 new", digestDue(), () -> x.digest());
        x.beginWith(3, 61, 3, 69);
        x.add(3, 60);
        x.add(3, 1);
        due("29 first and last place of both WORDS", digestDue(), () -> x.digest());
        x.knock();
        x.knock();
        x.emptyNothing(0);
        due("29 knocked and refused", digestDue(), () -> x.digest());
        for (int i = 0; i < 6; i++) {
            x.begin(i, 0);
        }
        due("29 all of nothing", digestDue(), () -> x.digest());
        pile(0, LIMIT);
        x.begin(1, 60);
        x.merge(1, 0);
        due("29 full", digestDue(), () -> x.digest());
        x.empty(5, 59);
        x.begin(4, 60);
        x.add(4, 59);
        x.add(4, 1);
        due("29 a HASH that wraps around", digestDue(), () -> x.digest());
    }

    /** What is only asked leaves an object as one that was not asked. */
    private static void asksChangeNothing() {
        for (int ask = 0; ask < 15; ask++) {
            String want = toldBehind(-1);
            int number = ask;
            due("16 to 29 ask " + ask + " changes nothing", want, () -> toldBehind(number));
        }
    }

    private static String toldBehind(int ask) {
        x = new Joinrow();
        x.addRow(0, 3, 9);
        x.empty(1, 2);
        x.beginWith(2, 63, 66, 67);
        x.add(2, 0);
        pile(3, LIMIT);
        for (int joiner = 0; joiner < 6; joiner++) {
            askOnce(ask, joiner);
        }
        StringBuilder told = new StringBuilder();
        for (int i = 0; i < 6; i++) {
            told.append(x.text(i)).append(x.length(i)).append(x.would(i, i)).append(x.would(0, i));
        }
        for (int i = 0; i < 6; i++) {
            if (i != 3) {
                told.append(x.add(i, 1)).append(x.text(i)).append(x.add(i, 5)).append(x.text(i));
            }
        }
        return told.append(x.house(1)).append(x.house(2)).append(x.digest()).toString();
    }

    private static void askOnce(int ask, int joiner) {
        switch (ask) {
            case 0: x.text(joiner); break;
            case 1: x.length(joiner); break;
            case 2: x.find(joiner, 3, false); break;
            case 3: x.find(joiner, 60, true); break;
            case 4: x.part(joiner, 0, 0); break;
            case 5: x.hash(joiner); break;
            case 6: x.isSame(joiner, 3); break;
            case 7: x.compare(3, joiner); break;
            case 8: x.would(joiner, 3); break;
            case 9: x.house(joiner % 4); break;
            case 10: x.isSound(); break;
            case 11: x.digest(); break;
            case 12: x.at(joiner, 0); break;
            case 13: x.word(joiner); break;
            case 14: x.part(joiner, 0, 1); break;
            default:
        }
    }

    /** An object is used for 512 calls; the last one is as good as the first one. */
    private static void lastCall() {
        x = new Joinrow();
        for (int i = 0; i < 254; i++) {
            x.begin(0, 60);
            x.addText(0, 0);
        }
        x.empty(0, 3);
        due("512 calls: the 510th", "", () -> x.text(0));
        due("512 calls: the 511th", true, () -> x.isSound());
        due("512 calls: the 512th", 2, () -> x.add(0, 1));
    }
}
