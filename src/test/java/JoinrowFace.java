import java.lang.reflect.Constructor;
import java.lang.reflect.Field;
import java.lang.reflect.Method;
import java.lang.reflect.Modifier;
import java.util.Set;
import java.util.TreeSet;

/** The face is the document's: nothing is missing, nothing more is seen. */
public final class JoinrowFace {
    private static final String[] FACE = {
        "int add(int,int)", "int addNothing(int)", "int addNumber(int,int)", "int addRow(int,int,int)",
        "int addText(int,int)", "int at(int,int)", "int begin(int,int)", "int beginNothing(int,int)",
        "int beginWith(int,int,int,int)", "int compare(int,int)", "int empty(int,int)",
        "int emptyNothing(int)", "int emptyText(int,int)", "int find(int,int,boolean)", "int hash(int)",
        "int house(int)", "int knock()", "int length(int)", "int merge(int,int)", "int mergeNothing(int)",
        "int twin(int,int)", "int would(int,int)", "boolean isSame(int,int)", "boolean isSound()",
        "long digest()", "String part(int,int,int)", "String text(int)", "String word(int)"
    };

    public static void main(String[] args) {
        Set<String> due = new TreeSet<>(Set.of(FACE));
        Set<String> seen = new TreeSet<>();
        Set<String> hidden = new TreeSet<>();
        Set<String> wrong = new TreeSet<>();
        for (Method method : Joinrow.class.getDeclaredMethods()) {
            if (Modifier.isPublic(method.getModifiers()) && !Modifier.isStatic(method.getModifiers())) {
                seen.add(spelled(method));
            } else if (Modifier.isPrivate(method.getModifiers())) {
                hidden.add(method.getName());
            } else {
                wrong.add("seen: " + method);
            }
        }
        for (String one : due) {
            String name = one.substring(one.indexOf(' ') + 1, one.indexOf('('));
            if (hidden.contains(name)) {
                wrong.add("a private method bears the name " + name);
            }
        }
        if (!seen.equals(due)) {
            wrong.add("the face is " + seen + ", due is " + due);
        }
        for (Field field : Joinrow.class.getDeclaredFields()) {
            if (!Modifier.isPrivate(field.getModifiers())) {
                wrong.add("seen: " + field);
            }
        }
        Constructor<?>[] makers = Joinrow.class.getConstructors();
        if (makers.length != 1 || makers[0].getParameterCount() != 0
            || Joinrow.class.getDeclaredConstructors().length != 1) {
            wrong.add("not the one constructor");
        }
        int kind = Joinrow.class.getModifiers();
        if (!Modifier.isFinal(kind) || !Modifier.isPublic(kind)) {
            wrong.add("not public and final");
        }
        for (String one : wrong) {
            System.out.println(one);
        }
        System.exit(wrong.isEmpty() ? 0 : 1);
    }

    private static String spelled(Method method) {
        StringBuilder text = new StringBuilder(method.getReturnType().getSimpleName());
        text.append(' ').append(method.getName()).append('(');
        String gap = "";
        for (Class<?> type : method.getParameterTypes()) {
            text.append(gap).append(type.getSimpleName());
            gap = ",";
        }
        return text.append(')').toString();
    }
}
