import java.lang.reflect.Field;
import java.lang.reflect.Method;
import java.lang.reflect.Modifier;
import java.util.Arrays;
import java.util.TreeSet;

/** The public face is the document's and no more; what else the class holds is private. */
public final class FaceTest {
    private static final String[] METHODS = {
        "int letters(int)", "int word(int,int,long)", "int at(int,int)", "int edit(int,int,int,int,int)",
        "int code(int,int,int,int)", "int sum(int)", "int isOf(int)", "int listed(int,int)", "int mend(int,int)",
        "int near(int)", "long liesIn(int,int)", "int common(int,int,int)", "long commons(int,int)",
        "int between(int,int,int)", "long by(int,int,int)", "int trace(int)", "int noTraces()", "int sources(int)",
        "int best(int,int)", "int line(int,int,int)", "int seed(long)", "int send(int,int)", "int count(int)"
    };
    private static final Check check = new Check("FaceTest");

    public static void main(String[] args) throws IllegalAccessException {
        TreeSet<String> names = new TreeSet<>();
        TreeSet<String> faces = new TreeSet<>();
        for (Method method : LostLetters.class.getDeclaredMethods()) {
            if (Modifier.isPublic(method.getModifiers())) {
                faces.add(face(method));
                check.due("modifiers of " + method.getName(), method.getModifiers(), Modifier.PUBLIC);
                check.due("throws of " + method.getName(), method.getExceptionTypes().length, 0);
                names.add(method.getName());
            } else {
                isPrivate(method.getName(), method.getModifiers());
            }
        }
        check.due("methods", faces.toString(), new TreeSet<>(Arrays.asList(METHODS)).toString());
        fields();
        check.due("constructors", Arrays.toString(LostLetters.class.getDeclaredConstructors()),
                "[public LostLetters()]");
        check.due("public final class", LostLetters.class.getModifiers(), Modifier.PUBLIC | Modifier.FINAL);
        check.due("of no other kind", LostLetters.class.getGenericSuperclass() + " "
                + LostLetters.class.getInterfaces().length, "class java.lang.Object 0");
        noNameTwice(LostLetters.class, names);
        for (Class<?> inside : LostLetters.class.getDeclaredClasses()) {
            check.due("static " + inside, Modifier.isStatic(inside.getModifiers()) ? 1 : 0, 1);
            check.due("seen from outside: " + inside,
                    inside.getModifiers() & (Modifier.PUBLIC | Modifier.PROTECTED), 0);
            noNameTwice(inside, names);
        }
        check.end();
    }

    private static String face(Method method) {
        StringBuilder text = new StringBuilder(method.getReturnType() + " " + method.getName() + "(");
        String comma = "";
        for (Class<?> type : method.getParameterTypes()) {
            text.append(comma).append(type);
            comma = ",";
        }
        return text.append(")").toString();
    }

    private static void isPrivate(String name, int modifiers) {
        check.due("private " + name, Modifier.isPrivate(modifiers) ? 1 : 0, 1);
    }

    private static void fields() throws IllegalAccessException {
        TreeSet<String> constants = new TreeSet<>();
        for (Field field : LostLetters.class.getDeclaredFields()) {
            if (Modifier.isPublic(field.getModifiers())) {
                constants.add(field.getType() + " " + field.getName() + " = " + field.get(null));
                check.due(field.getName(), field.getModifiers(), Modifier.PUBLIC | Modifier.STATIC | Modifier.FINAL);
            } else {
                isPrivate(field.getName(), field.getModifiers());
            }
        }
        check.due("constants", constants.toString(),
                "[int BAD = -1, int FAR = -5, int FULL = -3, int NO = -2, int NONE = -4]");
    }

    private static void noNameTwice(Class<?> where, TreeSet<String> names) {
        for (Method method : where.getDeclaredMethods()) {
            boolean isOfFace = where == LostLetters.class && Modifier.isPublic(method.getModifiers());
            check.due("name of " + method, !isOfFace && names.contains(method.getName()) ? 1 : 0, 0);
        }
    }
}
