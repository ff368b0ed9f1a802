import java.util.StringJoiner;

/** Long runs of calls, always the same ones, beside a second program that is built on java.util.StringJoiner. */
public final class JoinrowModel {
    private static final int RUNS = 400;
    private static final int CALLS = 512;

    private static int wrong = 0;

    private final Joinrow real = new Joinrow();
    private final StringJoiner[] joiners = new StringJoiner[6];
    private final String[][] three = new String[6][];
    private final int[] insides = new int[6];
    private final boolean[] filled = new boolean[6];
    private int knocks = 0;
    private int refusals = 0;
    private long seed;

    private JoinrowModel(long seed) {
        this.seed = seed;
        for (int i = 0; i < 6; i++) {
            start(i, ",", "[", "]");
        }
    }

    public static void main(String[] args) {
        for (int run = 0; run < RUNS && wrong < 20; run++) {
            new JoinrowModel(run * 7919L + 1).run(run);
        }
        System.out.println(wrong == 0 ? "all answers are as due" : "answers are not as due");
        System.exit(wrong == 0 ? 0 : 1);
    }

    private int next(int below) {
        seed = seed * 6364136223846793005L + 1442695040888963407L;
        return (int) ((seed >>> 33) % below);
    }

    private int joiner() {
        return next(40) == 0 ? next(2) * 7 - 1 : next(6);
    }

    private int word() {
        return next(40) == 0 ? next(2) * 71 - 1 : next(70);
    }

    private void run(int run) {
        for (int call = 0; call < CALLS; call++) {
            int[] told = {next(28), joiner(), joiner(), word(), word(), word()};
            int small = next(310) - 4;
            int number = next(3) == 0 ? (int) (seed >>> 20) : next(100) - 50;
            boolean flag = next(2) == 0;
            String due = model(told, small, number, flag);
            String got = answer(told, small, number, flag);
            if (!due.equals(got)) {
                wrong++;
                System.out.println("run " + run + " call " + call + " kind " + told[0] + " joiners " + told[1] + " "
                    + told[2] + " words " + told[3] + " " + told[4] + " " + told[5] + " place " + small + " number "
                    + number + " " + flag + ": answered " + got + ", due is " + due);
                return;
            }
        }
    }

    private String answer(int[] told, int small, int number, boolean flag) {
        int a = told[1];
        int b = told[2];
        int w = told[3];
        try {
            switch (told[0]) {
                case 0: return "" + real.begin(a, w);
                case 1: return "" + real.beginWith(a, w, told[4], told[5]);
                case 2: return "" + real.beginNothing(a, small % 5);
                case 3: return "" + real.twin(a, b);
                case 4: return "" + real.add(a, w);
                case 5: return "" + real.addNumber(a, number);
                case 6: return "" + real.addNothing(a);
                case 7: return "" + real.addRow(a, w, told[4]);
                case 8: return "" + real.addText(a, b);
                case 9: return "" + real.merge(a, b);
                case 10: return "" + real.mergeNothing(a);
                case 11: return "" + real.empty(a, w);
                case 12: return "" + real.emptyText(a, b);
                case 13: return "" + real.emptyNothing(a);
                case 14: return real.text(a);
                case 15: return "" + real.length(a);
                case 16: return "" + real.at(a, small);
                case 17: return "" + real.find(a, w, flag);
                case 18: return real.part(a, small / 2, small);
                case 19: return "" + real.hash(a);
                case 20: return "" + real.isSame(a, b);
                case 21: return "" + real.compare(a, b);
                case 22: return "" + real.would(a, b);
                case 23: return real.word(w);
                case 24: return "" + real.knock();
                case 25: return "" + real.house(small % 5);
                case 26: return "" + real.isSound();
                default: return "" + real.digest();
            }
        } catch (RuntimeException thrown) {
            return thrown.getClass().getSimpleName();
        }
    }

    private String model(int[] told, int small, int number, boolean flag) {
        int a = told[1];
        int b = told[2];
        int w = told[3];
        int kind = told[0];
        boolean needsOne = kind < 23;
        boolean needsTwo = kind == 3 || kind == 8 || kind == 9 || kind == 12 || kind >= 20 && kind <= 22;
        boolean needsWord = kind == 0 || kind == 1 || kind == 4 || kind == 7 || kind == 11 || kind == 17 || kind == 23;
        boolean needsSecond = kind == 1 || kind == 7;
        if (needsOne && (a < 0 || a > 5) || needsTwo && (b < 0 || b > 5)) {
            return "IndexOutOfBoundsException";
        }
        if (needsWord && spelled(w) == null || needsSecond && spelled(told[4]) == null
            || kind == 1 && spelled(told[5]) == null) {
            return "IllegalArgumentException";
        }
        if (kind < 14) {
            return changed(told, small, number);
        }
        switch (kind) {
            case 14: return text(a);
            case 15: return "" + text(a).length();
            case 16: return small < 0 || small >= text(a).length() ? "IndexOutOfBoundsException" : "" + (int) text(a).charAt(small);
            case 17: return "" + (flag ? text(a).lastIndexOf(spelled(w)) : text(a).indexOf(spelled(w)));
            case 18: return part(text(a), small / 2, small);
            case 19: return "" + text(a).hashCode();
            case 20: return "" + text(a).equals(text(b));
            case 21: return "" + Integer.signum(text(a).compareTo(text(b)));
            case 22: return "" + would(a, b);
            case 23: return spelled(w);
            case 24: return "" + ++knocks;
            case 25: return small % 5 < 0 || small % 5 > 3 ? "IllegalArgumentException" : "" + house(small % 5);
            case 26: return "true";
            default: return "" + digest();
        }
    }

    private String changed(int[] told, int small, int number) {
        int a = told[1];
        int b = told[2];
        int was = text(a).length();
        switch (told[0]) {
            case 0: start(a, spelled(told[3]), "", ""); return "" + was;
            case 1: start(a, spelled(told[3]), spelled(told[4]), spelled(told[5])); return "" + was;
            case 2: return small % 5 < 0 || small % 5 > 2 ? "IllegalArgumentException" : refused();
            case 3: return twin(a, b);
            case 4: return laid(a, spelled(told[3]));
            case 5: return laid(a, "" + number);
            case 6: return laid(a, "null");
            case 7: return laid(a, spelled(told[3]) + spelled(told[4]));
            case 8: return laid(a, text(b));
            case 9: return merged(a, b);
            case 11: return emptied(a, spelled(told[3]));
            case 12: return emptied(a, text(b));
            default: return refused();
        }
    }

    private static String spelled(int number) {
        String[] marks = {",", ", ", "-", "::", "[", "]", "(", ")", "{}", "null"};
        if (number < 0 || number > 69) {
            return null;
        }
        return number >= 60 ? marks[number - 60] : "abcdefghijklmnopqrstuvwxyz".substring(number / 4, number / 4 + number % 4);
    }

    private void start(int joiner, String between, String prefix, String suffix) {
        three[joiner] = new String[] {between, prefix, suffix};
        joiners[joiner] = new StringJoiner(between, prefix, suffix);
        insides[joiner] = 0;
        filled[joiner] = false;
    }

    private String text(int joiner) {
        return joiners[joiner].toString();
    }

    private int whole(int joiner) {
        return three[joiner][1].length() + insides[joiner] + three[joiner][2].length();
    }

    private int wholeWith(int joiner, int piece) {
        return whole(joiner) + piece + (filled[joiner] ? three[joiner][0].length() : 0);
    }

    private int would(int a, int b) {
        return filled[b] ? wholeWith(a, insides[b]) : text(a).length();
    }

    private String laid(int joiner, String piece) {
        if (wholeWith(joiner, piece.length()) > 300) {
            return "IllegalStateException";
        }
        insides[joiner] += wholeWith(joiner, piece.length()) - whole(joiner);
        joiners[joiner].add(piece);
        filled[joiner] = true;
        return "" + text(joiner).length();
    }

    private String merged(int a, int b) {
        if (would(a, b) > 300) {
            return "IllegalStateException";
        }
        if (filled[b]) {
            insides[a] += wholeWith(a, insides[b]) - whole(a);
            filled[a] = true;
        }
        joiners[a].merge(joiners[b]);
        return "" + text(a).length();
    }

    private String twin(int a, int b) {
        if (a == b) {
            return "IllegalArgumentException";
        }
        start(b, three[a][0], three[a][1], three[a][2]);
        return merged(b, a);
    }

    private String emptied(int joiner, String text) {
        joiners[joiner].setEmptyValue(text);
        return "" + text(joiner).length();
    }

    private String refused() {
        refusals++;
        return "-9";
    }

    private static String part(String text, int from, int to) {
        return from < 0 || to > text.length() || from > to ? "IllegalArgumentException" : text.substring(from, to);
    }

    private int house(int what) {
        int sum = 0;
        int pairs = 0;
        for (int i = 0; i < 6; i++) {
            sum += text(i).length();
            for (int j = i + 1; j < 6; j++) {
                pairs += text(i).equals(text(j)) ? 1 : 0;
            }
        }
        return new int[] {sum, knocks, refusals, pairs}[what];
    }

    private long digest() {
        long d = 7776;
        for (int what = 0; what < 4; what++) {
            d = d * 31 + house(what);
        }
        for (int i = 0; i < 6; i++) {
            String text = text(i);
            int[] asked = {text.length(), text.hashCode(), text.indexOf("a"), text.lastIndexOf("a"),
                text.indexOf(","), text.lastIndexOf(",")};
            for (int v : asked) {
                d = d * 31 + v;
            }
        }
        for (int i = 0; i < 6; i++) {
            for (int j = i + 1; j < 6; j++) {
                d = d * 31 + Integer.signum(text(i).compareTo(text(j)));
                d = d * 31 + would(i, j);
            }
        }
        return d * 31 + 1;
    }
}
