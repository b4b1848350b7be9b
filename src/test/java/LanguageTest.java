import com.sun.management.ThreadMXBean;
import java.io.IOException;
import java.lang.management.ManagementFactory;
import java.lang.reflect.Field;
import java.lang.reflect.Method;
import java.lang.reflect.Modifier;
import java.nio.file.Files;
import java.nio.file.Path;
import java.util.ArrayList;
import java.util.List;
import java.util.Set;
import java.util.TreeSet;
import java.util.regex.Matcher;
import java.util.regex.Pattern;

/** The rules of ../shared/LANGUAGE.md, as far as the words and the parts of the class tell whether they are kept. */
public final class LanguageTest {
    private static final Path FILE = Path.of("src", "main", "java", "Badgewood.java");
    private static final String OWN = "Badgewood";
    private static final int MOST_CLASSES = 12, MOST_FIELDS = 20, MOST_PARAMETERS = 7, MOST_LINES = 60;
    /** By rule 12 some 600,000 objects, each of 16 bytes or more, and this is far below. */
    private static final long MOST_BYTES = 1_000_000;
    private static final Pattern LIBRARY = Pattern.compile("java/lang/("
            + "Object\\.(<init>|clone)"
            + "|String\\.(length|charAt|isEmpty|equals|indexOf|substring|toCharArray|<init>)"
            + "|StringBuilder\\.(<init>|append|charAt|setCharAt|setLength|deleteCharAt|reverse|length|toString)"
            + "|(Integer|Long|Math)\\.(compare|max|min|abs|bitCount|floorDiv|floorMod|valueOf|intValue)"
            + "|System\\.arraycopy"
            + "|(IllegalState|IllegalArgument|IndexOutOfBounds|Arithmetic|UnsupportedOperation|Runtime)Exception\\.<init>)"
            + "|java/util/("
            + "(ArrayList|List)\\.(<init>|add|get|set|remove|size|isEmpty|clear|iterator|of)"
            + "|Iterator\\.(hasNext|next)|Arrays\\.(copyOf|copyOfRange|fill)|NoSuchElementException\\.<init>)");
    private static final Pattern THROWS = Pattern.compile("throw new (IllegalState|IllegalArgument|IndexOutOfBounds"
            + "|Arithmetic|UnsupportedOperation|NoSuchElement|Runtime)Exception\\((\"[^\"+]*\")?\\);");
    private static final Pattern METHOD = Pattern.compile("( +)(public|private|static|int|boolean|void|[A-Z]\\w*) .*");

    public static void main(String[] args) throws IOException {
        List<String> lines = Files.readAllLines(FILE);
        List<Class<?>> classes = new ArrayList<>(List.of(Badgewood.class.getDeclaredClasses()));
        Check.due("rule 11: classes", classes.size() + 1 <= MOST_CLASSES, true);
        for (Class<?> inside : classes) {
            classInside(inside);
        }
        classes.add(Badgewood.class);
        for (Class<?> type : classes) {
            fields(type);
            methods(type);
            library(type);
        }
        words(lines);
        lengths(lines);
        room();
        Check.finish("LanguageTest");
    }

    private static void classInside(Class<?> inside) {
        int modifiers = inside.getModifiers();
        boolean isHidden = !Modifier.isPublic(modifiers) && !Modifier.isProtected(modifiers);
        Check.due("rules 1, 2: " + inside + " is static and hidden", Modifier.isStatic(modifiers) && isHidden, true);
        Check.due("rule 2: it has no more inside", inside.getDeclaredClasses().length, 0);
    }

    private static void fields(Class<?> type) {
        int count = 0;
        for (Field field : type.getDeclaredFields()) {
            int modifiers = field.getModifiers();
            boolean isConstant = Modifier.isStatic(modifiers);
            count += isConstant ? 0 : 1;
            Check.due("rule 3: the type of " + field, isAllowed(field.getType()), true);
            Check.due("rule 5: " + field + " changes", isConstant && !Modifier.isFinal(modifiers), false);
            Check.due("rule 1: " + field + " can be seen from outside", type == Badgewood.class
                    && !Modifier.isPrivate(modifiers) && !(isConstant && Modifier.isPublic(modifiers)), false);
        }
        Check.due("rule 11: fields of " + type + ": " + count, count <= MOST_FIELDS, true);
    }

    private static boolean isAllowed(Class<?> type) {
        Class<?> part = type.isArray() ? type.getComponentType() : type;
        String name = part.getName();
        return part.isPrimitive() || name.startsWith(OWN + "$")
                || name.matches("java\\.(lang\\.(String|StringBuilder|Integer)|util\\.(ArrayList|List))");
    }

    private static void methods(Class<?> type) {
        Set<String> open = new TreeSet<>();
        for (Method method : Badgewood.class.getDeclaredMethods()) {
            if (Modifier.isPublic(method.getModifiers())) {
                open.add(method.getName());
            }
        }
        for (Method method : type.getDeclaredMethods()) {
            String name = method.getName();
            Check.due("rule 11: parameters of " + method, method.getParameterCount() <= MOST_PARAMETERS, true);
            Check.due("rule 6: " + method, Set.of("equals", "hashCode", "toString").contains(name), false);
            Check.due("rule 1: " + method + " is named as one of the face",
                    open.contains(name) && Modifier.isPrivate(method.getModifiers()), false);
        }
    }

    private static void library(Class<?> type) throws IOException {
        ClassFile file = ClassFile.of(type);
        for (String member : file.foreignMembers(OWN)) {
            Check.due("rule 4: " + member, LIBRARY.matcher(member).matches(), true);
        }
        for (String name : file.classes()) {
            Check.due("rule 7: " + name + ", thrown by the machine, is named",
                    name.matches("java/lang/(NullPointer|ArrayIndexOutOfBounds|ClassCast|NegativeArraySize|ArrayStore"
                            + "|StringIndexOutOfBounds|NumberFormat)Exception|java/lang/(Throwable|Exception|Error)"), false);
        }
        Check.due("rules 2, 4: a lambda or a text joined by a plus in " + type, file.isDynamic(), false);
    }

    private static void words(List<String> lines) {
        // Who catches one of these two would catch what the machine throws, too.
        Pattern refused = Pattern.compile("catch \\((Runtime)?Exception|->|::|static \\{|\\b(package|synchronized|assert"
                + "|finally|volatile|native|protected|getMessage|Thread|Random|\\w+Exact)\\b");
        for (String line : lines) {
            Check.due("rule 4: a sign beyond 127 in " + line, line.chars().anyMatch(sign -> sign > 127), false);
            String code = line.replaceAll("\"[^\"]*\"", "\"\"").replaceAll("//.*|^ *(/\\*\\*|\\*).*", "");
            Check.due("a word that the rules leave out: " + line, refused.matcher(code).find(), false);
            Check.due("rule 4: " + line, line.startsWith("import ")
                    && !line.matches("import java\\.util\\.(ArrayList|List|Arrays|Iterator|NoSuchElementException);"), false);
            Check.due("rule 6: " + line, code.contains("throw ") && !THROWS.matcher(line.strip()).matches(), false);
        }
    }

    /** From a line that opens a method to the one that closes it, with as many blanks ahead. */
    private static void lengths(List<String> lines) {
        int methods = 0;
        for (int first = 0; first < lines.size(); first++) {
            Matcher opening = METHOD.matcher(lines.get(first));
            if (opening.matches() && lines.get(first).contains("(") && !lines.get(first).endsWith(";")) {
                int last = first;
                while (last < lines.size() - 1 && !lines.get(last).equals(opening.group(1) + "}")) {
                    last++;
                }
                methods++;
                Check.due("rule 11: the lines of " + lines.get(first).strip(), last - first < MOST_LINES, true);
            }
        }
        Check.due("methods were found", methods > 60, true);
    }

    /** A run of 512 calls, most of them the dearest one. */
    private static void room() {
        ThreadMXBean machine = (ThreadMXBean) ManagementFactory.getThreadMXBean();
        long before = machine.getCurrentThreadAllocatedBytes();
        Badgewood x = Starts.outing(12, 8);
        for (int event = 0; event < 3; event++) {
            x.event(0, 0, Badgewood.HALL, 5, 9, 1);
        }
        for (int call = 0; call < 460; call++) {
            x.couldStaff(5, 9, 255);
        }
        long taken = machine.getCurrentThreadAllocatedBytes() - before;
        Check.due("rule 12: " + taken + " bytes", taken < MOST_BYTES, true);
    }
}
