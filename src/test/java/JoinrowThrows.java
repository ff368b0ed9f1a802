/**
 * Each exception of the document: the calls that throw it, which one is thrown where several apply (the one that is
 * named first), and that such a call, or a refused one, changed nothing: behind it, the object answers as one that was
 * made in the same way and never got that call.
 */
public final class JoinrowThrows {
    private static final String NO_JOINER = "throws IndexOutOfBoundsException";
    private static final String WRONG = "throws IllegalArgumentException";
    private static final String TOO_LONG = "throws IllegalStateException";
    private static final String REFUSED = "-9";
    private static final int LEAST = Integer.MIN_VALUE;
    private static final int MOST = Integer.MAX_VALUE;

    /** Numbers round the edges of the JOINERS and of the WORDS, inside and outside. */
    private static final int[] JOINERS = {LEAST, -1, 0, 3, 5, 6, MOST};
    private static final int[] WORDS = {LEAST, -1, 0, 69, 70, MOST};
    private static final int[] SMALL = {LEAST, -1, 0, 1, 2, 3, 4, MOST};
    private static final int STATES = 3;

    private static int wrong = 0;
    private static int thrown = 0;

    private interface Call {
        Object on(Joinrow x);
    }

    public static void main(String[] args) {
        for (int state = 0; state < STATES; state++) {
            wrongJoiners(state);
            wrongPairs(state);
            wrongWords(state);
            wrongThrees(state);
            wrongNumbers(state);
            wrongPlaces(state);
        }
        tooLong();
        tooLongStaysUnfilled();
        wrongAheadOfTooLong();
        refusedChangesNothingElse();
        exceptionsGoAheadOfRefused();
        if (thrown < 1000) {
            wrong++;
            System.out.println("only " + thrown + " calls threw");
        }
        System.out.println(wrong == 0 ? "all answers are as due" : wrong + " answers are not as due");
        System.exit(wrong == 0 ? 0 : 1);
    }

    // Objects to try it on, always made in the same way.

    private static Joinrow made(int state) {
        Joinrow x = new Joinrow();
        if (state == 1) {
            makeMixed(x);
        }
        if (state == 2) {
            makeUnfilled(x);
        }
        return x;
    }

    /** Joiners with pieces, with "" as the one piece, with an EMPTY text, and two (3 and 5) that are at the limit. */
    private static void makeMixed(Joinrow x) {
        x.beginWith(0, 61, 66, 67);
        x.add(0, 3);
        x.addNumber(0, -7);
        x.begin(1, 63);
        x.empty(1, 3);
        x.add(2, 0);
        pile(x, 4, 298);
        x.addText(5, 4);
        pile(x, 3, 300);
        x.beginWith(4, 62, 69, 68);
        x.knock();
        x.knock();
        x.mergeNothing(0);
    }

    /** Joiners that are not filled, with EMPTY texts of 3, 0 and 300 signs; 3 is filled and at the limit. */
    private static void makeUnfilled(Joinrow x) {
        pile(x, 3, 300);
        x.empty(0, 3);
        x.empty(1, 0);
        x.beginWith(2, 63, 69, 69);
        x.emptyText(2, 3);
        x.begin(4, 60);
        x.beginWith(5, 1, 2, 3);
        x.empty(5, 69);
        x.emptyNothing(5);
    }

    /** Makes a joiner tell so many signs, without BETWEEN, PREFIX and SUFFIX. */
    private static void pile(Joinrow x, int joiner, int many) {
        x.begin(joiner, 0);
        for (int left = many; left > 0; left -= 4) {
            x.add(joiner, left >= 4 ? 69 : left);
        }
    }

    // How it is looked at.

    private static String answered(Joinrow x, Call call) {
        try {
            return String.valueOf(call.on(x));
        } catch (RuntimeException e) {
            return "throws " + e.getClass().getSimpleName();
        }
    }

    private static void wrongCall(int state, String name, String want, Call call) {
        Joinrow touched = made(state);
        String got = answered(touched, call);
        if (!got.equals(want)) {
            wrong++;
            System.out.println("state " + state + ": " + name + " answered " + got + ", due is " + want);
            return;
        }
        thrown++;
        String untouchedTold = told(made(state));
        String touchedTold = told(touched);
        if (!touchedTold.equals(untouchedTold)) {
            wrong++;
            System.out.println("state " + state + ": " + name + " " + got + ", but changed something: then "
                + touchedTold + ", due is " + untouchedTold);
        }
    }

    /** All that an object tells, also of what shows only when more is laid. */
    private static String told(Joinrow x) {
        StringBuilder all = new StringBuilder();
        for (int what = 0; what < 4; what++) {
            all.append(x.house(what)).append(' ');
        }
        all.append(x.digest());
        for (int i = 0; i < 6; i++) {
            all.append('\n').append(x.text(i)).append(' ').append(x.length(i));
            for (int j = 0; j < 6; j++) {
                all.append(' ').append(x.would(i, j));
            }
        }
        for (int i = 0; i < 6; i++) {
            int joiner = i;
            all.append('\n').append(answered(x, y -> y.add(joiner, 5))).append(' ').append(x.text(i));
            all.append(' ').append(answered(x, y -> y.merge(joiner, joiner))).append(' ').append(x.text(i));
            x.begin(i, 62);
            all.append(' ').append(x.add(i, 1)).append(x.add(i, 1)).append(x.text(i));
        }
        return all.append(x.knock()).toString();
    }

    private static boolean isNoJoiner(int joiner) {
        return joiner < 0 || joiner > 5;
    }

    private static boolean isNoWord(int word) {
        return word < 0 || word > 69;
    }

    // Calls with arguments that are wrong.

    private static void wrongJoiners(int state) {
        for (int a : JOINERS) {
            if (!isNoJoiner(a)) {
                continue;
            }
            wrongCall(state, "addNumber(" + a + ", 1)", NO_JOINER, x -> x.addNumber(a, 1));
            wrongCall(state, "addNothing(" + a + ")", NO_JOINER, x -> x.addNothing(a));
            wrongCall(state, "mergeNothing(" + a + ")", NO_JOINER, x -> x.mergeNothing(a));
            wrongCall(state, "emptyNothing(" + a + ")", NO_JOINER, x -> x.emptyNothing(a));
            wrongCall(state, "text(" + a + ")", NO_JOINER, x -> x.text(a));
            wrongCall(state, "length(" + a + ")", NO_JOINER, x -> x.length(a));
            wrongCall(state, "hash(" + a + ")", NO_JOINER, x -> x.hash(a));
        }
    }

    /** Two joiners: one of both, or both, may be none; that goes ahead of both being the same, and of a full one. */
    private static void wrongPairs(int state) {
        for (int a : JOINERS) {
            for (int b : JOINERS) {
                String both = "(" + a + ", " + b + ")";
                if (isNoJoiner(a) || isNoJoiner(b)) {
                    wrongCall(state, "twin" + both, NO_JOINER, x -> x.twin(a, b));
                    wrongCall(state, "addText" + both, NO_JOINER, x -> x.addText(a, b));
                    wrongCall(state, "merge" + both, NO_JOINER, x -> x.merge(a, b));
                    wrongCall(state, "emptyText" + both, NO_JOINER, x -> x.emptyText(a, b));
                    wrongCall(state, "isSame" + both, NO_JOINER, x -> x.isSame(a, b));
                    wrongCall(state, "compare" + both, NO_JOINER, x -> x.compare(a, b));
                    wrongCall(state, "would" + both, NO_JOINER, x -> x.would(a, b));
                } else if (a == b) {
                    wrongCall(state, "twin" + both, WRONG, x -> x.twin(a, b));
                }
            }
        }
    }

    private static void wrongWords(int state) {
        for (int w : WORDS) {
            if (isNoWord(w)) {
                wrongCall(state, "word(" + w + ")", WRONG, x -> x.word(w));
            }
            for (int a : JOINERS) {
                if (!isNoJoiner(a) && !isNoWord(w)) {
                    continue;
                }
                String want = isNoJoiner(a) ? NO_JOINER : WRONG;
                String both = "(" + a + ", " + w + ")";
                wrongCall(state, "begin" + both, want, x -> x.begin(a, w));
                wrongCall(state, "add" + both, want, x -> x.add(a, w));
                wrongCall(state, "empty" + both, want, x -> x.empty(a, w));
                wrongCall(state, "find first" + both, want, x -> x.find(a, w, false));
                wrongCall(state, "find last" + both, want, x -> x.find(a, w, true));
            }
        }
    }

    private static void wrongThrees(int state) {
        for (int a : JOINERS) {
            for (int u : WORDS) {
                for (int v : WORDS) {
                    if (isNoJoiner(a) || isNoWord(u) || isNoWord(v)) {
                        String want = isNoJoiner(a) ? NO_JOINER : WRONG;
                        String all = "(" + a + ", " + u + ", " + v;
                        wrongCall(state, "addRow" + all + ")", want, x -> x.addRow(a, u, v));
                        wrongCall(state, "beginWith" + all + ", 1)", want, x -> x.beginWith(a, u, v, 1));
                        wrongCall(state, "beginWith" + all + ") with 1 ahead", want, x -> x.beginWith(a, 1, u, v));
                    }
                }
            }
        }
    }

    private static void wrongNumbers(int state) {
        for (int n : SMALL) {
            if (n < 0 || n > 3) {
                wrongCall(state, "house(" + n + ")", WRONG, x -> x.house(n));
            }
            for (int a : JOINERS) {
                if (isNoJoiner(a) || n < 0 || n > 2) {
                    String want = isNoJoiner(a) ? NO_JOINER : WRONG;
                    wrongCall(state, "beginNothing(" + a + ", " + n + ")", want, x -> x.beginNothing(a, n));
                }
            }
        }
    }

    private static void wrongPlaces(int state) {
        for (int a : JOINERS) {
            int size = isNoJoiner(a) ? 0 : made(state).length(a);
            int[] places = {LEAST, -1, 0, 1, size - 1, size, size + 1, 301, MOST};
            for (int from : places) {
                if (isNoJoiner(a) || from < 0 || from >= size) {
                    wrongCall(state, "at(" + a + ", " + from + ")", NO_JOINER, x -> x.at(a, from));
                }
                for (int to : places) {
                    if (isNoJoiner(a) || from < 0 || to > size || from > to) {
                        String want = isNoJoiner(a) ? NO_JOINER : WRONG;
                        wrongCall(state, "part(" + a + ", " + from + ", " + to + ")", want, x -> x.part(a, from, to));
                    }
                }
            }
        }
    }

    // A TEXT that would be too long.

    /** In state 1 joiner 3 has 300 signs without a BETWEEN, and joiner 5 has 300 signs, with "," between. */
    private static void tooLong() {
        wrongCall(1, "add(3, 1)", TOO_LONG, x -> x.add(3, 1));
        wrongCall(1, "add(5, 0)", TOO_LONG, x -> x.add(5, 0));
        wrongCall(1, "addNumber(3, 0)", TOO_LONG, x -> x.addNumber(3, 0));
        wrongCall(1, "addNumber(5, MIN)", TOO_LONG, x -> x.addNumber(5, LEAST));
        wrongCall(1, "addNothing(3)", TOO_LONG, x -> x.addNothing(3));
        wrongCall(1, "addNothing(5)", TOO_LONG, x -> x.addNothing(5));
        wrongCall(1, "addRow(3, 0, 1)", TOO_LONG, x -> x.addRow(3, 0, 1));
        wrongCall(1, "addRow(3, 1, 0)", TOO_LONG, x -> x.addRow(3, 1, 0));
        wrongCall(1, "addRow(5, 0, 0)", TOO_LONG, x -> x.addRow(5, 0, 0));
        wrongCall(1, "addText(3, 2)", TOO_LONG, x -> x.addText(3, 2));
        wrongCall(1, "addText(3, 3)", TOO_LONG, x -> x.addText(3, 3));
        wrongCall(1, "addText(0, 3)", TOO_LONG, x -> x.addText(0, 3));
        wrongCall(1, "merge(3, 0)", TOO_LONG, x -> x.merge(3, 0));
        wrongCall(1, "merge(3, 3)", TOO_LONG, x -> x.merge(3, 3));
        wrongCall(1, "merge(5, 5)", TOO_LONG, x -> x.merge(5, 5));
        wrongCall(1, "merge(5, 2) of one piece that is nothing", TOO_LONG, x -> x.merge(5, 2));
        wrongCall(1, "merge(0, 3)", TOO_LONG, x -> x.merge(0, 3));
    }

    /** What is refused as the first PIECE leaves the JOINER without one, and with its EMPTY text. */
    private static void tooLongStaysUnfilled() {
        wrongCall(1, "addText(4, 3)", TOO_LONG, x -> x.addText(4, 3));
        wrongCall(1, "merge(4, 3)", TOO_LONG, x -> x.merge(4, 3));
        wrongCall(2, "addText(0, 3)", TOO_LONG, x -> x.addText(0, 3));
        wrongCall(2, "merge(0, 3)", TOO_LONG, x -> x.merge(0, 3));
        wrongCall(2, "addText(2, 2)", TOO_LONG, x -> x.addText(2, 2));
        wrongCall(2, "merge(1, 3)", TOO_LONG, x -> x.merge(1, 3));
        wrongCall(2, "addText(5, 2)", TOO_LONG, x -> x.addText(5, 2));
    }

    /** The joiners 3 and 5 are full, so that both exceptions apply. */
    private static void wrongAheadOfTooLong() {
        for (int full = 3; full <= 5; full += 2) {
            int a = full;
            wrongCall(1, "add(" + a + ", 70)", WRONG, x -> x.add(a, 70));
            wrongCall(1, "add(" + a + ", -1)", WRONG, x -> x.add(a, -1));
            wrongCall(1, "addRow(" + a + ", 70, 3)", WRONG, x -> x.addRow(a, 70, 3));
            wrongCall(1, "addRow(" + a + ", 3, 70)", WRONG, x -> x.addRow(a, 3, 70));
            wrongCall(1, "addText(" + a + ", 6)", NO_JOINER, x -> x.addText(a, 6));
            wrongCall(1, "merge(" + a + ", 6)", NO_JOINER, x -> x.merge(a, 6));
            wrongCall(1, "addText(-1, " + a + ")", NO_JOINER, x -> x.addText(-1, a));
            wrongCall(1, "merge(-1, " + a + ")", NO_JOINER, x -> x.merge(-1, a));
        }
    }

    // Where the library refuses.

    private static void refusedChangesNothingElse() {
        for (int state = 0; state < STATES; state++) {
            for (int joiner = 0; joiner < 6; joiner++) {
                int a = joiner;
                for (int which = 0; which < 3; which++) {
                    int n = which;
                    refusedCall(state, "beginNothing(" + a + ", " + n + ")", x -> x.beginNothing(a, n));
                }
                refusedCall(state, "mergeNothing(" + a + ")", x -> x.mergeNothing(a));
                refusedCall(state, "emptyNothing(" + a + ")", x -> x.emptyNothing(a));
            }
        }
    }

    /** The same as an object on which another refused call was made: then house(2) is the same, too. */
    private static void refusedCall(int state, String name, Call call) {
        Joinrow touched = made(state);
        Joinrow other = made(state);
        int before = touched.house(2);
        String got = answered(touched, call);
        other.mergeNothing(state);
        if (!got.equals(REFUSED) || touched.house(2) != before + 1 || !told(touched).equals(told(other))) {
            wrong++;
            System.out.println("state " + state + ": " + name + " answered " + got + " and changed more than house(2)");
        }
    }

    private static void exceptionsGoAheadOfRefused() {
        Joinrow x = made(0);
        answered(x, y -> y.beginNothing(6, 0));
        answered(x, y -> y.beginNothing(0, 3));
        answered(x, y -> y.mergeNothing(6));
        answered(x, y -> y.emptyNothing(-1));
        if (x.house(2) != 0) {
            wrong++;
            System.out.println("house(2) counts what threw an exception: " + x.house(2));
        }
    }
}
