/** Each promise by itself: ordinary inputs, the edges that the document names, and wrong inputs. */
public final class JoinrowPromises {
    private static final String NO_JOINER = "throws IndexOutOfBoundsException";
    private static final String WRONG = "throws IllegalArgumentException";
    private static final String TOO_LONG = "throws IllegalStateException";
    private static final int[] NO_JOINERS = {-1, 6, Integer.MIN_VALUE, Integer.MAX_VALUE};
    private static final int[] NO_WORDS = {-1, 70, Integer.MIN_VALUE, Integer.MAX_VALUE};

    private static int wrong = 0;
    private static int promise = 0;
    private static Joinrow x;

    private interface Call {
        Object answer();
    }

    private static void due(String call, Object want, Call got) {
        String answered;
        try {
            answered = String.valueOf(got.answer());
        } catch (RuntimeException thrown) {
            answered = "throws " + thrown.getClass().getSimpleName();
        }
        if (!answered.equals(String.valueOf(want))) {
            wrong++;
            System.out.println("promise " + promise + ": " + call + " answered " + answered + ", due is " + want);
        }
    }

    private static void start(int number) {
        promise = number;
        x = new Joinrow();
    }

    private static void text(int joiner, String want) {
        due("text(" + joiner + ")", want, () -> x.text(joiner));
        due("length(" + joiner + ")", want.length(), () -> x.length(joiner));
    }

    /** Makes a joiner tell 4 * count signs, without prefix and suffix. */
    private static void fill(int joiner, int count) {
        x.begin(joiner, 0);
        for (int i = 0; i < count; i++) {
            x.addNothing(joiner);
        }
    }

    public static void main(String[] args) {
        newObject();
        begin();
        beginWith();
        beginNothing();
        twin();
        add();
        addNumber();
        addNothing();
        addRow();
        addText();
        merge();
        mergeNothing();
        empty();
        emptyText();
        emptyNothing();
        text();
        length();
        at();
        find();
        part();
        hash();
        isSame();
        compare();
        would();
        word();
        knock();
        house();
        isSound();
        digest();
        System.out.println(wrong == 0 ? "all answers are as due" : wrong + " answers are not as due");
        System.exit(wrong == 0 ? 0 : 1);
    }

    private static void newObject() {
        start(1);
        for (int i = 0; i < 6; i++) {
            text(i, "[]");
        }
        due("house(0)", 12, () -> x.house(0));
        due("house(1)", 0, () -> x.house(1));
        due("house(2)", 0, () -> x.house(2));
        x.add(5, 1);
        x.add(5, 5);
        text(5, "[a,b]");
        text(4, "[]");
    }

    private static void begin() {
        start(2);
        due("begin(0, 63)", 2, () -> x.begin(0, 63));
        text(0, "");
        x.empty(0, 3);
        due("begin(0, 63)", 3, () -> x.begin(0, 63));
        text(0, "");
        x.add(0, 1);
        x.add(0, 2);
        text(0, "a::ab");
        due("begin(0, 0)", 5, () -> x.begin(0, 0));
        x.add(0, 1);
        x.add(0, 2);
        text(0, "aab");
        for (int none : NO_JOINERS) {
            due("begin(" + none + ", 70)", NO_JOINER, () -> x.begin(none, 70));
        }
        for (int none : NO_WORDS) {
            due("begin(0, " + none + ")", WRONG, () -> x.begin(0, none));
        }
        text(0, "aab");
    }

    private static void beginWith() {
        start(3);
        due("beginWith(2, 61, 66, 67)", 2, () -> x.beginWith(2, 61, 66, 67));
        text(2, "()");
        x.empty(2, 69);
        due("beginWith(2, 61, 69, 68)", 4, () -> x.beginWith(2, 61, 69, 68));
        text(2, "null{}");
        x.add(2, 3);
        x.add(2, 0);
        text(2, "nullabc, {}");
        due("beginWith(2, 62, 0, 1)", 11, () -> x.beginWith(2, 62, 0, 1));
        x.add(2, 0);
        x.add(2, 5);
        text(2, "-ba");
        for (int none : NO_JOINERS) {
            due("beginWith(" + none + ", 70, 70, 70)", NO_JOINER, () -> x.beginWith(none, 70, 70, 70));
        }
        for (int none : NO_WORDS) {
            due("beginWith between " + none, WRONG, () -> x.beginWith(2, none, 1, 1));
            due("beginWith prefix " + none, WRONG, () -> x.beginWith(2, 1, none, 1));
            due("beginWith suffix " + none, WRONG, () -> x.beginWith(2, 1, 1, none));
        }
        text(2, "-ba");
    }

    private static void beginNothing() {
        start(4);
        x.add(0, 1);
        for (int which = 0; which < 3; which++) {
            int asked = which;
            due("beginNothing(0, " + which + ")", -9, () -> x.beginNothing(0, asked));
        }
        text(0, "[a]");
        due("house(2)", 3, () -> x.house(2));
        for (int none : NO_JOINERS) {
            due("beginNothing(" + none + ", 3)", NO_JOINER, () -> x.beginNothing(none, 3));
        }
        for (int which : new int[] {-1, 3, Integer.MIN_VALUE, Integer.MAX_VALUE}) {
            due("beginNothing(0, " + which + ")", WRONG, () -> x.beginNothing(0, which));
        }
        due("house(2)", 3, () -> x.house(2));
    }

    private static void twin() {
        start(5);
        x.beginWith(0, 63, 66, 67);
        x.add(0, 1);
        x.add(0, 2);
        x.add(1, 3);
        x.empty(1, 3);
        due("twin(0, 1)", 7, () -> x.twin(0, 1));
        text(1, "(a::ab)");
        text(0, "(a::ab)");
        x.add(1, 5);
        text(1, "(a::ab::b)");
        text(0, "(a::ab)");
        x.begin(2, 62);
        x.empty(2, 3);
        due("twin(2, 1)", 0, () -> x.twin(2, 1));
        text(1, "");
        x.add(1, 0);
        x.add(1, 0);
        text(1, "-");
        x.begin(4, 62);
        x.add(4, 0);
        due("twin(4, 3)", 0, () -> x.twin(4, 3));
        x.add(3, 1);
        text(3, "-a");
        fill(5, 75);
        due("twin(5, 3)", 300, () -> x.twin(5, 3));
        due("length(3)", 300, () -> x.length(3));
        for (int none : NO_JOINERS) {
            due("twin(" + none + ", " + none + ")", NO_JOINER, () -> x.twin(none, none));
            due("twin(0, " + none + ")", NO_JOINER, () -> x.twin(0, none));
            due("twin(" + none + ", 0)", NO_JOINER, () -> x.twin(none, 0));
        }
        due("twin(0, 0)", WRONG, () -> x.twin(0, 0));
        text(0, "(a::ab)");
    }

    private static void add() {
        start(6);
        due("add(0, 0)", 2, () -> x.add(0, 0));
        due("add(0, 0)", 3, () -> x.add(0, 0));
        due("add(0, 3)", 7, () -> x.add(0, 3));
        text(0, "[,,abc]");
        x.empty(1, 69);
        due("add(1, 0)", 2, () -> x.add(1, 0));
        text(1, "[]");
        fill(2, 75);
        due("add(2, 1)", TOO_LONG, () -> x.add(2, 1));
        due("add(2, 0)", 300, () -> x.add(2, 0));
        due("add(2, 70)", WRONG, () -> x.add(2, 70));
        x.beginWith(2, 60, 64, 65);
        for (int i = 0; i < 59; i++) {
            x.addNothing(2);
        }
        due("length(2)", 296, () -> x.length(2));
        due("add(2, 69)", TOO_LONG, () -> x.add(2, 69));
        due("add(2, 3)", 300, () -> x.add(2, 3));
        due("add(2, 0)", TOO_LONG, () -> x.add(2, 0));
        due("length(2)", 300, () -> x.length(2));
        due("house(2)", 0, () -> x.house(2));
        for (int none : NO_JOINERS) {
            due("add(" + none + ", 70)", NO_JOINER, () -> x.add(none, 70));
        }
        for (int none : NO_WORDS) {
            due("add(0, " + none + ")", WRONG, () -> x.add(0, none));
        }
        text(0, "[,,abc]");
    }

    private static void addNumber() {
        start(7);
        due("addNumber(0, 0)", 3, () -> x.addNumber(0, 0));
        due("addNumber(0, -7)", 6, () -> x.addNumber(0, -7));
        due("addNumber(0, 1024)", 11, () -> x.addNumber(0, 1024));
        due("addNumber(0, MAX)", 22, () -> x.addNumber(0, Integer.MAX_VALUE));
        due("addNumber(0, MIN)", 34, () -> x.addNumber(0, Integer.MIN_VALUE));
        text(0, "[0,-7,1024,2147483647,-2147483648]");
        fill(1, 74);
        due("addNumber(1, -1234)", TOO_LONG, () -> x.addNumber(1, -1234));
        due("length(1)", 296, () -> x.length(1));
        due("addNumber(1, -123)", 300, () -> x.addNumber(1, -123));
        for (int none : NO_JOINERS) {
            due("addNumber(" + none + ", 1)", NO_JOINER, () -> x.addNumber(none, 1));
        }
    }

    private static void addNothing() {
        start(8);
        due("addNothing(3)", 6, () -> x.addNothing(3));
        due("addNothing(3)", 11, () -> x.addNothing(3));
        text(3, "[null,null]");
        fill(1, 75);
        due("addNothing(1)", TOO_LONG, () -> x.addNothing(1));
        due("length(1)", 300, () -> x.length(1));
        for (int none : NO_JOINERS) {
            due("addNothing(" + none + ")", NO_JOINER, () -> x.addNothing(none));
        }
    }

    private static void addRow() {
        start(9);
        due("addRow(0, 3, 7)", 8, () -> x.addRow(0, 3, 7));
        due("addRow(0, 69, 1)", 14, () -> x.addRow(0, 69, 1));
        text(0, "[abcbcd,nulla]");
        x.empty(1, 3);
        due("addRow(1, 0, 0)", 2, () -> x.addRow(1, 0, 0));
        due("addRow(1, 0, 0)", 3, () -> x.addRow(1, 0, 0));
        text(1, "[,]");
        fill(2, 74);
        due("addRow(2, 3, 2)", TOO_LONG, () -> x.addRow(2, 3, 2));
        due("addRow(2, 2, 2)", 300, () -> x.addRow(2, 2, 2));
        due("addRow(2, 0, 70)", WRONG, () -> x.addRow(2, 0, 70));
        for (int none : NO_JOINERS) {
            due("addRow(" + none + ", 70, 70)", NO_JOINER, () -> x.addRow(none, 70, 70));
        }
        for (int none : NO_WORDS) {
            due("addRow(0, " + none + ", 1)", WRONG, () -> x.addRow(0, none, 1));
            due("addRow(0, 1, " + none + ")", WRONG, () -> x.addRow(0, 1, none));
        }
        text(0, "[abcbcd,nulla]");
    }

    private static void addText() {
        start(10);
        x.add(1, 1);
        due("addText(0, 1)", 5, () -> x.addText(0, 1));
        due("addText(0, 0)", 11, () -> x.addText(0, 0));
        text(0, "[[a],[[a]]]");
        x.empty(2, 3);
        due("addText(2, 2)", 5, () -> x.addText(2, 2));
        text(2, "[abc]");
        x.begin(3, 62);
        due("addText(2, 3)", 6, () -> x.addText(2, 3));
        text(2, "[abc,]");
        fill(4, 75);
        due("addText(3, 4)", 300, () -> x.addText(3, 4));
        due("addText(1, 4)", TOO_LONG, () -> x.addText(1, 4));
        text(1, "[a]");
        for (int none : NO_JOINERS) {
            due("addText(" + none + ", 0)", NO_JOINER, () -> x.addText(none, 0));
            due("addText(0, " + none + ")", NO_JOINER, () -> x.addText(0, none));
        }
    }

    private static void merge() {
        start(11);
        x.beginWith(0, 62, 66, 67);
        x.add(0, 1);
        x.add(0, 2);
        x.beginWith(1, 63, 64, 65);
        due("merge(1, 0)", 6, () -> x.merge(1, 0));
        due("merge(1, 0)", 12, () -> x.merge(1, 0));
        text(1, "[a-ab::a-ab]");
        text(0, "(a-ab)");
        due("merge(0, 0)", 11, () -> x.merge(0, 0));
        text(0, "(a-ab-a-ab)");
        x.empty(2, 3);
        due("merge(1, 2) of one that is not filled", 12, () -> x.merge(1, 2));
        due("merge(2, 2) of one that is not filled", 3, () -> x.merge(2, 2));
        text(2, "abc");
        x.add(3, 0);
        due("merge(2, 3) of one piece that is nothing", 2, () -> x.merge(2, 3));
        text(2, "[]");
        due("merge(2, 3)", 3, () -> x.merge(2, 3));
        fill(4, 75);
        due("merge(4, 4)", TOO_LONG, () -> x.merge(4, 4));
        due("merge(5, 4)", TOO_LONG, () -> x.merge(5, 4));
        due("merge(4, 3)", 300, () -> x.merge(4, 3));
        x.begin(5, 0);
        due("merge(4, 5)", 300, () -> x.merge(4, 5));
        due("merge(5, 4)", 300, () -> x.merge(5, 4));
        for (int none : NO_JOINERS) {
            due("merge(" + none + ", 0)", NO_JOINER, () -> x.merge(none, 0));
            due("merge(4, " + none + ")", NO_JOINER, () -> x.merge(4, none));
        }
        mergeToTheEdge();
    }

    private static void mergeToTheEdge() {
        x.begin(0, 60);
        for (int i = 0; i < 37; i++) {
            x.addRow(0, 3, 0);
        }
        x.beginWith(1, 61, 64, 65);
        x.merge(1, 0);
        due("length(1)", 149, () -> x.length(1));
        due("merge(1, 0)", 298, () -> x.merge(1, 0));
        x.begin(0, 0);
        x.add(0, 0);
        due("merge(1, 0)", 300, () -> x.merge(1, 0));
        due("merge(1, 0)", TOO_LONG, () -> x.merge(1, 0));
        due("length(1)", 300, () -> x.length(1));
    }

    private static void mergeNothing() {
        start(12);
        x.add(0, 1);
        due("mergeNothing(0)", -9, () -> x.mergeNothing(0));
        due("mergeNothing(5)", -9, () -> x.mergeNothing(5));
        text(0, "[a]");
        for (int none : NO_JOINERS) {
            due("mergeNothing(" + none + ")", NO_JOINER, () -> x.mergeNothing(none));
        }
        due("house(2)", 2, () -> x.house(2));
    }

    private static void empty() {
        start(13);
        due("empty(0, 3)", 3, () -> x.empty(0, 3));
        text(0, "abc");
        due("empty(0, 0)", 0, () -> x.empty(0, 0));
        text(0, "");
        x.add(0, 1);
        text(0, "[a]");
        due("empty(0, 69)", 3, () -> x.empty(0, 69));
        text(0, "[a]");
        for (int none : NO_JOINERS) {
            due("empty(" + none + ", 70)", NO_JOINER, () -> x.empty(none, 70));
        }
        for (int none : NO_WORDS) {
            due("empty(1, " + none + ")", WRONG, () -> x.empty(1, none));
        }
        text(1, "[]");
    }

    private static void emptyText() {
        start(14);
        x.add(1, 3);
        due("emptyText(0, 1)", 5, () -> x.emptyText(0, 1));
        x.add(1, 3);
        text(0, "[abc]");
        due("emptyText(0, 0)", 5, () -> x.emptyText(0, 0));
        text(0, "[abc]");
        due("emptyText(1, 0)", 9, () -> x.emptyText(1, 0));
        due("emptyText(2, 2)", 2, () -> x.emptyText(2, 2));
        x.beginWith(2, 60, 66, 67);
        due("emptyText(2, 3)", 2, () -> x.emptyText(2, 3));
        text(2, "[]");
        fill(4, 75);
        due("emptyText(3, 4)", 300, () -> x.emptyText(3, 4));
        due("isSame(3, 4)", true, () -> x.isSame(3, 4));
        due("add(3, 1)", 3, () -> x.add(3, 1));
        for (int none : NO_JOINERS) {
            due("emptyText(" + none + ", 0)", NO_JOINER, () -> x.emptyText(none, 0));
            due("emptyText(0, " + none + ")", NO_JOINER, () -> x.emptyText(0, none));
        }
    }

    private static void emptyNothing() {
        start(15);
        x.empty(0, 3);
        due("emptyNothing(0)", -9, () -> x.emptyNothing(0));
        due("emptyNothing(1)", -9, () -> x.emptyNothing(1));
        text(0, "abc");
        text(1, "[]");
        for (int none : NO_JOINERS) {
            due("emptyNothing(" + none + ")", NO_JOINER, () -> x.emptyNothing(none));
        }
        due("house(2)", 2, () -> x.house(2));
    }

    private static void text() {
        start(16);
        x.add(0, 1);
        due("text(0)", "[a]", () -> x.text(0));
        due("text(0)", "[a]", () -> x.text(0));
        fill(1, 75);
        due("text(1)", "null".repeat(75), () -> x.text(1));
        for (int none : NO_JOINERS) {
            due("text(" + none + ")", NO_JOINER, () -> x.text(none));
        }
    }

    private static void length() {
        start(17);
        due("length(0)", 2, () -> x.length(0));
        x.empty(0, 0);
        due("length(0)", 0, () -> x.length(0));
        x.add(0, 0);
        due("length(0)", 2, () -> x.length(0));
        for (int none : NO_JOINERS) {
            due("length(" + none + ")", NO_JOINER, () -> x.length(none));
        }
    }

    private static void at() {
        start(18);
        x.add(0, 2);
        due("at(0, 0)", 91, () -> x.at(0, 0));
        due("at(0, 2)", 98, () -> x.at(0, 2));
        due("at(0, 3)", 93, () -> x.at(0, 3));
        for (int place : new int[] {-1, 4, Integer.MIN_VALUE, Integer.MAX_VALUE}) {
            due("at(0, " + place + ")", NO_JOINER, () -> x.at(0, place));
        }
        x.begin(1, 0);
        due("at(1, 0) of nothing", NO_JOINER, () -> x.at(1, 0));
        x.empty(1, 7);
        due("at(1, 2)", 100, () -> x.at(1, 2));
        fill(2, 75);
        due("at(2, 299)", 108, () -> x.at(2, 299));
        due("at(2, 300)", NO_JOINER, () -> x.at(2, 300));
        for (int none : NO_JOINERS) {
            due("at(" + none + ", 0)", NO_JOINER, () -> x.at(none, 0));
        }
    }

    private static void find() {
        start(19);
        x.add(0, 3);
        x.add(0, 2);
        x.add(0, 3);
        due("find(0, 3, false)", 1, () -> x.find(0, 3, false));
        due("find(0, 3, true)", 8, () -> x.find(0, 3, true));
        due("find(0, 2, true)", 8, () -> x.find(0, 2, true));
        due("find(0, 60, false)", 4, () -> x.find(0, 60, false));
        due("find(0, 60, true)", 7, () -> x.find(0, 60, true));
        due("find(0, 64, true)", 0, () -> x.find(0, 64, true));
        due("find(0, 65, false)", 11, () -> x.find(0, 65, false));
        due("find(0, 69, false)", -1, () -> x.find(0, 69, false));
        due("find(0, 69, true)", -1, () -> x.find(0, 69, true));
        due("find(0, 0, false)", 0, () -> x.find(0, 0, false));
        due("find(0, 0, true)", 12, () -> x.find(0, 0, true));
        x.begin(1, 63);
        due("find(1, 0, false)", 0, () -> x.find(1, 0, false));
        due("find(1, 0, true)", 0, () -> x.find(1, 0, true));
        due("find(1, 1, false)", -1, () -> x.find(1, 1, false));
        x.empty(1, 1);
        due("find(1, 2, false)", -1, () -> x.find(1, 2, false));
        x.add(1, 0);
        x.add(1, 0);
        x.add(1, 0);
        due("find(1, 63, false) in ::::", 0, () -> x.find(1, 63, false));
        due("find(1, 63, true) in ::::", 2, () -> x.find(1, 63, true));
        for (int none : NO_JOINERS) {
            due("find(" + none + ", 70, true)", NO_JOINER, () -> x.find(none, 70, true));
        }
        for (int none : NO_WORDS) {
            due("find(0, " + none + ", false)", WRONG, () -> x.find(0, none, false));
        }
    }

    private static void part() {
        start(20);
        x.add(0, 3);
        due("part(0, 0, 5)", "[abc]", () -> x.part(0, 0, 5));
        due("part(0, 1, 3)", "ab", () -> x.part(0, 1, 3));
        due("part(0, 4, 5)", "]", () -> x.part(0, 4, 5));
        due("part(0, 0, 0)", "", () -> x.part(0, 0, 0));
        due("part(0, 5, 5)", "", () -> x.part(0, 5, 5));
        due("part(0, -1, 3)", WRONG, () -> x.part(0, -1, 3));
        due("part(0, 0, 6)", WRONG, () -> x.part(0, 0, 6));
        due("part(0, 6, 6)", WRONG, () -> x.part(0, 6, 6));
        due("part(0, 3, 2)", WRONG, () -> x.part(0, 3, 2));
        due("part(0, MAX, MIN)", WRONG, () -> x.part(0, Integer.MAX_VALUE, Integer.MIN_VALUE));
        due("part(0, MIN, MAX)", WRONG, () -> x.part(0, Integer.MIN_VALUE, Integer.MAX_VALUE));
        for (int none : NO_JOINERS) {
            due("part(" + none + ", -1, 0)", NO_JOINER, () -> x.part(none, -1, 0));
        }
    }

    private static void hash() {
        start(21);
        due("hash(0)", "[]".hashCode(), () -> x.hash(0));
        x.begin(0, 0);
        due("hash(0)", 0, () -> x.hash(0));
        x.empty(0, 59);
        due("hash(0)", "opq".hashCode(), () -> x.hash(0));
        fill(1, 75);
        due("hash(1)", "null".repeat(75).hashCode(), () -> x.hash(1));
        for (int none : NO_JOINERS) {
            due("hash(" + none + ")", NO_JOINER, () -> x.hash(none));
        }
    }

    private static void isSame() {
        start(22);
        due("isSame(0, 1)", true, () -> x.isSame(0, 1));
        due("isSame(0, 0)", true, () -> x.isSame(0, 0));
        x.empty(1, 1);
        due("isSame(0, 1)", false, () -> x.isSame(0, 1));
        x.begin(0, 0);
        x.add(0, 1);
        due("isSame(0, 1)", true, () -> x.isSame(0, 1));
        x.add(0, 1);
        due("isSame(0, 1)", false, () -> x.isSame(0, 1));
        due("isSame(1, 0)", false, () -> x.isSame(1, 0));
        for (int none : NO_JOINERS) {
            due("isSame(" + none + ", 0)", NO_JOINER, () -> x.isSame(none, 0));
            due("isSame(0, " + none + ")", NO_JOINER, () -> x.isSame(0, none));
        }
    }

    private static void compare() {
        start(23);
        due("compare(0, 1)", 0, () -> x.compare(0, 1));
        due("compare(2, 2)", 0, () -> x.compare(2, 2));
        x.empty(0, 1);
        x.empty(1, 2);
        due("compare(0, 1) of a and ab", -1, () -> x.compare(0, 1));
        due("compare(1, 0) of ab and a", 1, () -> x.compare(1, 0));
        x.empty(0, 59);
        due("compare(0, 1) of opq and ab", 1, () -> x.compare(0, 1));
        due("compare(1, 0) of ab and opq", -1, () -> x.compare(1, 0));
        x.empty(0, 5);
        due("compare(0, 1) of b and ab", 1, () -> x.compare(0, 1));
        due("compare(1, 0) of ab and b", -1, () -> x.compare(1, 0));
        x.empty(0, 0);
        due("compare(0, 2) of nothing", -1, () -> x.compare(0, 2));
        due("compare(2, 0) of nothing", 1, () -> x.compare(2, 0));
        for (int none : NO_JOINERS) {
            due("compare(" + none + ", 0)", NO_JOINER, () -> x.compare(none, 0));
            due("compare(0, " + none + ")", NO_JOINER, () -> x.compare(0, none));
        }
    }

    private static void would() {
        start(24);
        x.beginWith(0, 63, 66, 67);
        x.add(0, 3);
        x.add(1, 1);
        due("would(0, 1)", 8, () -> x.would(0, 1));
        due("would(1, 0)", 7, () -> x.would(1, 0));
        due("would(0, 0)", 10, () -> x.would(0, 0));
        text(0, "(abc)");
        x.empty(2, 3);
        due("would(2, 3)", 3, () -> x.would(2, 3));
        due("would(0, 2)", 5, () -> x.would(0, 2));
        due("would(2, 0)", 5, () -> x.would(2, 0));
        text(2, "abc");
        x.add(3, 0);
        due("would(2, 3)", 2, () -> x.would(2, 3));
        due("would(3, 3)", 3, () -> x.would(3, 3));
        x.beginWith(5, 60, 69, 0);
        due("would(5, 0) with a prefix alone", 7, () -> x.would(5, 0));
        x.beginWith(5, 60, 0, 68);
        due("would(5, 0) with a suffix alone", 5, () -> x.would(5, 0));
        x.beginWith(5, 60, 64, 65);
        fill(4, 75);
        due("would(4, 4)", 600, () -> x.would(4, 4));
        due("would(1, 4)", 304, () -> x.would(1, 4));
        due("would(5, 4)", 302, () -> x.would(5, 4));
        text(5, "[]");
        for (int none : NO_JOINERS) {
            due("would(" + none + ", 0)", NO_JOINER, () -> x.would(none, 0));
            due("would(0, " + none + ")", NO_JOINER, () -> x.would(0, none));
        }
    }

    private static void word() {
        start(25);
        String letters = "abcdefghijklmnopqrstuvwxyz";
        String[] marks = {",", ", ", "-", "::", "[", "]", "(", ")", "{}", "null"};
        for (int number = 0; number < 70; number++) {
            int asked = number;
            String want = number < 60
                ? letters.substring(number / 4, number / 4 + number % 4)
                : marks[number - 60];
            due("word(" + number + ")", want, () -> x.word(asked));
        }
        for (int none : NO_WORDS) {
            due("word(" + none + ")", WRONG, () -> x.word(none));
        }
    }

    private static void knock() {
        start(26);
        for (int i = 1; i <= 5; i++) {
            due("knock()", i, () -> x.knock());
        }
    }

    private static void house() {
        start(27);
        due("house(0)", 12, () -> x.house(0));
        due("house(3)", 15, () -> x.house(3));
        x.empty(0, 3);
        x.add(1, 2);
        x.knock();
        x.knock();
        x.mergeNothing(0);
        x.emptyNothing(0);
        x.beginNothing(0, 1);
        due("house(0)", 15, () -> x.house(0));
        due("house(1)", 2, () -> x.house(1));
        due("house(2)", 3, () -> x.house(2));
        due("house(3)", 6, () -> x.house(3));
        x.empty(2, 3);
        due("house(3)", 4, () -> x.house(3));
        for (int what : new int[] {-1, 4, Integer.MIN_VALUE, Integer.MAX_VALUE}) {
            due("house(" + what + ")", WRONG, () -> x.house(what));
        }
    }

    private static void isSound() {
        start(28);
        due("isSound()", true, () -> x.isSound());
        x.empty(0, 3);
        x.add(1, 0);
        fill(2, 75);
        fill(3, 75);
        x.beginWith(4, 69, 68, 69);
        x.emptyText(5, 2);
        String before = all();
        due("isSound() of long ones", true, () -> x.isSound());
        due("the joiners behind isSound()", before, JoinrowPromises::all);
    }

    private static String all() {
        StringBuilder texts = new StringBuilder();
        for (int i = 0; i < 6; i++) {
            texts.append(x.text(i)).append('|').append(x.length(i)).append('|');
        }
        return texts.toString();
    }

    private static void digest() {
        start(29);
        long d = 7776;
        long[] houses = {12, 0, 0, 15};
        for (long v : houses) {
            d = d * 31 + v;
        }
        for (int i = 0; i < 6; i++) {
            long[] asked = {2, "[]".hashCode(), -1, -1, -1, -1};
            for (long v : asked) {
                d = d * 31 + v;
            }
        }
        for (int pair = 0; pair < 15; pair++) {
            d = (d * 31) * 31 + 2;
        }
        long want = d * 31 + 1;
        due("digest() of a new object", want, () -> x.digest());
        due("digest() again", want, () -> x.digest());
        x.knock();
        due("digest() changes with a knock", false, () -> x.digest() == want);
        digestOfMany();
    }

    private static void digestOfMany() {
        x.mergeNothing(0);
        x.add(0, 1);
        x.add(0, 1);
        x.add(0, 2);
        x.empty(1, 1);
        x.beginWith(2, 62, 69, 68);
        x.add(2, 1);
        x.add(2, 60);
        fill(3, 75);
        x.emptyText(4, 0);
        long d = 7776;
        for (int what = 0; what < 4; what++) {
            d = d * 31 + x.house(what);
        }
        for (int i = 0; i < 6; i++) {
            d = d * 31 + x.length(i);
            d = d * 31 + x.hash(i);
            d = d * 31 + x.find(i, 1, false);
            d = d * 31 + x.find(i, 1, true);
            d = d * 31 + x.find(i, 60, false);
            d = d * 31 + x.find(i, 60, true);
        }
        for (int i = 0; i < 6; i++) {
            for (int j = i + 1; j < 6; j++) {
                d = d * 31 + x.compare(i, j);
                d = d * 31 + x.would(i, j);
            }
        }
        due("digest() of many", d * 31 + 1, () -> x.digest());
    }
}
