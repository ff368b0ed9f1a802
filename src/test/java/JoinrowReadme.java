import java.lang.reflect.InvocationTargetException;
import java.lang.reflect.Method;
import java.lang.reflect.Modifier;
import java.util.Set;
import java.util.TreeSet;

/**
 * The calls that README.md shows, with the answers that it tells. .ci/run looks that the calls below are those of
 * README.md, sign by sign, so that this test needs no file.
 */
public final class JoinrowReadme {
    private static final String CALLS = """
        Joinrow row = new Joinrow();
        row.text(0);                     // "[]"
        row.beginWith(0, 61, 66, 67);    // 2
        row.text(0);                     // "()"
        row.add(0, 3);                   // 5
        row.addNumber(0, -7);            // 9
        row.addNothing(0);               // 15
        row.addRow(0, 1, 5);             // 19
        row.text(0);                     // "(abc, -7, null, ab)"
        row.begin(1, 62);                // 2
        row.add(1, 1);                   // 1
        row.addText(1, 1);               // 3
        row.text(1);                     // "a-a"
        row.merge(2, 1);                 // 5
        row.add(2, 5);                   // 7
        row.merge(2, 2);                 // 13
        row.text(2);                     // "[a-a,b,a-a,b]"
        row.merge(2, 4);                 // 13
        row.twin(0, 3);                  // 19
        row.add(3, 0);                   // 21
        row.text(3);                     // "(abc, -7, null, ab, )"
        row.empty(4, 69);                // 4
        row.text(4);                     // "null"
        row.emptyText(5, 1);             // 3
        row.add(1, 2);                   // 6
        row.text(5);                     // "a-a"
        row.add(5, 0);                   // 2
        row.text(5);                     // "[]"
        row.length(0);                   // 19
        row.at(0, 1);                    // 97
        row.find(0, 61, false);          // 4
        row.find(0, 61, true);           // 14
        row.find(0, 68, true);           // -1
        row.part(0, 10, 14);             // "null"
        row.hash(5);                     // 2914
        row.isSame(4, 5);                // false
        row.isSame(4, 4);                // true
        row.compare(4, 5);               // 1
        row.compare(5, 4);               // -1
        row.would(5, 1);                 // 9
        row.word(7);                     // "bcd"
        row.beginNothing(0, 1);          // -9
        row.mergeNothing(0);             // -9
        row.emptyNothing(0);             // -9
        row.house(2);                    // 3
        row.text(6);                     // throws IndexOutOfBoundsException
        row.at(5, 2);                    // throws IndexOutOfBoundsException
        row.add(0, 70);                  // throws IllegalArgumentException
        row.begin(4, 0);                 // 4
        row.addNothing(4);               // 4
        row.merge(4, 4);                 // 8
        row.merge(4, 4);                 // 16
        row.merge(4, 4);                 // 32
        row.merge(4, 4);                 // 64
        row.merge(4, 4);                 // 128
        row.merge(4, 4);                 // 256
        row.would(4, 4);                 // 512
        row.merge(4, 4);                 // throws IllegalStateException
        row.length(4);                   // 256
        row.house(2);                    // 3
        row.knock();                     // 1
        row.knock();                     // 2
        row.house(0);                    // 317
        row.house(1);                    // 2
        row.house(3);                    // 0
        row.isSound();                   // true
        row.digest();                    // -242800084547928824
        """;
    private static final String MADE = "Joinrow row = new Joinrow();";

    private static final Set<String> shown = new TreeSet<>();
    private static int wrong = 0;
    private static Joinrow row = new Joinrow();

    public static void main(String[] args) {
        for (String line : CALLS.split("\n")) {
            if (line.equals(MADE)) {
                row = new Joinrow();
            } else {
                tryLine(line);
            }
        }
        eachMethodIsShown();
        System.out.println(wrong == 0 ? "all answers are as due" : wrong + " answers are not as due");
        System.exit(wrong == 0 ? 0 : 1);
    }

    private static void tryLine(String line) {
        int gap = line.indexOf(';');
        int told = line.indexOf("// ");
        if (!line.startsWith("row.") || gap < 0 || told < gap) {
            say("this is no call with its answer: " + line);
            return;
        }
        String call = line.substring("row.".length(), gap);
        String want = line.substring(told + "// ".length());
        String got = answered(call);
        if (!got.equals(want)) {
            say(call + " answered " + got + ", README.md tells " + want);
        }
    }

    /** The answer as README.md writes it: a text between quotes, an exception behind "throws". */
    private static String answered(String call) {
        String name = call.substring(0, call.indexOf('('));
        String inside = call.substring(call.indexOf('(') + 1, call.lastIndexOf(')'));
        String[] given = inside.isEmpty() ? new String[0] : inside.split(", ");
        shown.add(name);
        try {
            Method method = methodOf(name);
            if (method == null || method.getParameterCount() != given.length) {
                return "no such method";
            }
            Object answer = method.invoke(row, valuesOf(method.getParameterTypes(), given));
            return answer instanceof String ? '"' + (String) answer + '"' : String.valueOf(answer);
        } catch (InvocationTargetException thrown) {
            return "throws " + thrown.getCause().getClass().getSimpleName();
        } catch (IllegalAccessException hidden) {
            return "no public method";
        }
    }

    private static Object[] valuesOf(Class<?>[] types, String[] given) {
        Object[] values = new Object[given.length];
        for (int i = 0; i < given.length; i++) {
            if (types[i] == boolean.class) {
                values[i] = Boolean.valueOf(given[i]);
            } else {
                values[i] = Integer.valueOf(given[i]);
            }
        }
        return values;
    }

    private static Method methodOf(String name) {
        for (Method method : Joinrow.class.getDeclaredMethods()) {
            if (method.getName().equals(name)) {
                return method;
            }
        }
        return null;
    }

    private static void eachMethodIsShown() {
        for (Method method : Joinrow.class.getDeclaredMethods()) {
            if (Modifier.isPublic(method.getModifiers()) && !shown.contains(method.getName())) {
                say("README.md does not show " + method.getName());
            }
        }
    }

    private static void say(String fault) {
        wrong++;
        System.out.println(fault);
    }
}
