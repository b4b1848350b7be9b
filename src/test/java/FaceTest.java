import java.lang.reflect.Constructor;
import java.lang.reflect.Field;
import java.lang.reflect.Method;
import java.lang.reflect.Modifier;
import java.util.Set;
import java.util.StringJoiner;
import java.util.TreeSet;

/** The public face is that of the document, with its throws clauses, and nothing beyond it can be reached. */
public final class FaceTest {
    public static void main(String[] args) throws IllegalAccessException {
        Class<?> face = Badgewood.class;
        Check.due("the class is public and final", face.getModifiers(), Modifier.PUBLIC | Modifier.FINAL);
        Set<String> due = new TreeSet<>();
        for (String line : Doc.face()) {
            due.addAll(taken(line));
        }
        Set<String> got = new TreeSet<>();
        for (Constructor<?> made : face.getDeclaredConstructors()) {
            got.add(Modifier.toString(made.getModifiers()) + " Badgewood" + clauses(made.getParameterTypes(),
                    made.getExceptionTypes()));
        }
        for (Method method : face.getDeclaredMethods()) {
            if (!Modifier.isPrivate(method.getModifiers()) && !method.isSynthetic()) {
                got.add(Modifier.toString(method.getModifiers()) + " " + method.getReturnType() + " "
                        + method.getName() + clauses(method.getParameterTypes(), method.getExceptionTypes()));
            }
        }
        addConstants(face, got);
        Check.due("methods and constants, ten of them", due.size(), 10 + 1 + 28);
        for (String member : due) {
            Check.due(member + " is there", got.contains(member), true);
        }
        Check.due("nothing else", got.size(), due.size());
        Check.finish("FaceTest");
    }

    private static void addConstants(Class<?> face, Set<String> got) throws IllegalAccessException {
        for (Field field : face.getDeclaredFields()) {
            int modifiers = field.getModifiers();
            boolean isConstant = Modifier.isStatic(modifiers) && Modifier.isPublic(modifiers);
            if (!Modifier.isPrivate(modifiers) && !field.isSynthetic()) {
                got.add(Modifier.toString(modifiers) + " " + field.getType() + " " + field.getName()
                        + (isConstant ? " = " + field.getInt(null) : ""));
            }
        }
    }

    private static String clauses(Class<?>[] parameters, Class<?>[] exceptions) {
        StringJoiner types = new StringJoiner(", ", "(", ")");
        for (Class<?> type : parameters) {
            types.add(type.getSimpleName());
        }
        StringJoiner thrown = new StringJoiner(", ", exceptions.length == 0 ? "" : " throws ", "");
        for (Class<?> type : exceptions) {
            thrown.add(type.getSimpleName());
        }
        return types.toString() + thrown;
    }

    /** What a line of the document declares, without the names of the parameters; it may be several constants. */
    private static Set<String> taken(String line) {
        Set<String> members = new TreeSet<>();
        String words = line.replaceAll(";$", "");
        if (words.contains("(")) {
            members.add(words.replaceAll("(int|boolean) \\w+(?=[,)])", "$1"));
            return members;
        }
        String kind = "public static final int ";
        for (String constant : words.substring(kind.length()).split(", ")) {
            members.add(kind + constant);
        }
        return members;
    }
}
