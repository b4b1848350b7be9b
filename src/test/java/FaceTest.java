import java.lang.reflect.Constructor;
import java.lang.reflect.Field;
import java.lang.reflect.Method;
import java.lang.reflect.Modifier;
import java.util.Set;
import java.util.TreeSet;

/** The public face is that of the document, and nothing beyond it can be reached. */
public final class FaceTest {
    private static final String[] METHODS = {
        "int troop(int,int,int)", "int child(int)", "int join(int,int)", "int leave(int)", "int patrol(int,int)",
        "int duty(int,int)", "int pass(int)", "int season()", "int leader()", "void vet(int,int,int,int)",
        "int permit(int,int,int)", "int teach(int,int)", "int edition(int,int,int,int,int,int,int)",
        "int begin(int,int)", "int prove(int,int,int)", "int event(int,int,int,int,int,int)",
        "int staff(int,int,boolean)", "int why(int)", "boolean couldStaff(int,int,int)", "int boxes(int,int)",
        "int pay(int,int)", "int owed(int)", "int today()", "int ofChild(int,int)", "int ofTroop(int,boolean)",
        "int earned(int,int)", "boolean holds(int,int)", "int lacks(int,int)",
    };

    public static void main(String[] args) {
        constants();
        members();
        Check.finish("FaceTest");
    }

    private static void constants() {
        Check.due("NONE", Badgewood.NONE, -1);
        Check.due("HALL", Badgewood.HALL, 0);
        Check.due("WATER", Badgewood.WATER, 1);
        Check.due("ROPES", Badgewood.ROPES, 2);
        Check.due("FIRE", Badgewood.FIRE, 3);
        Check.due("LAWFUL", Badgewood.LAWFUL, 0);
        Check.due("TOO_FEW", Badgewood.TOO_FEW, 1);
        Check.due("NOT_VETTED", Badgewood.NOT_VETTED, 2);
        Check.due("NO_PERMIT", Badgewood.NO_PERMIT, 3);
        Check.due("ALONE", Badgewood.ALONE, 4);
    }

    private static void members() {
        Class<?> face = Badgewood.class;
        Check.due("the class is public and final", face.getModifiers(), Modifier.PUBLIC | Modifier.FINAL);
        Check.due("constructors", face.getDeclaredConstructors().length, 1);
        for (Constructor<?> made : face.getDeclaredConstructors()) {
            Check.due("the constructor is public", Modifier.isPublic(made.getModifiers()), true);
            Check.due("the constructor's parameters", made.getParameterCount(), 0);
        }
        Set<String> want = new TreeSet<>(Set.of(METHODS));
        Set<String> got = new TreeSet<>();
        for (Method method : face.getDeclaredMethods()) {
            if (!Modifier.isPrivate(method.getModifiers()) && !method.isSynthetic()) {
                got.add(written(method));
            }
        }
        Check.due("methods", got.toString(), want.toString());
        int constants = 0;
        for (Field field : face.getDeclaredFields()) {
            if (!Modifier.isPrivate(field.getModifiers()) && !field.isSynthetic()) {
                constants++;
            }
        }
        Check.due("constants", constants, 10);
    }

    private static String written(Method method) {
        StringBuilder text = new StringBuilder();
        text.append(method.getReturnType().getName()).append(' ').append(method.getName()).append('(');
        String comma = "";
        for (Class<?> type : method.getParameterTypes()) {
            text.append(comma).append(type.getName());
            comma = ",";
        }
        return text.append(')').toString();
    }
}
