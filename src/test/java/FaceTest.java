import java.lang.reflect.Constructor;
import java.lang.reflect.Field;
import java.lang.reflect.Method;
import java.lang.reflect.Modifier;
import java.util.HashSet;
import java.util.Set;
import java.util.TreeSet;

/** The public face of the document, and what LANGUAGE.md's rules 1, 5 and 11 say of members. */
public final class FaceTest {
    private static final String INDEX = " IndexOutOfBoundsException";
    private static final String ARGUMENT = " IllegalArgumentException";
    private static final String STATE = " IllegalStateException";
    private static final String[] FACE = {
        "int star(int)" + ARGUMENT + STATE,
        "int planet(int, int, int, int, int)" + INDEX + ARGUMENT + STATE,
        "int spots(int, int, int)" + INDEX + ARGUMENT,
        "int blend(int, int)" + INDEX + ARGUMENT,
        "long light(int, int)" + INDEX,
        "int cloud(int, int)" + INDEX + ARGUMENT,
        "int observe(int, int, int)" + INDEX + ARGUMENT,
        "long kept(int, int)" + INDEX,
        "long score(int, int)" + INDEX + ARGUMENT + STATE,
        "int phase(int, int)" + INDEX + ARGUMENT + STATE,
        "int period(int, int)" + INDEX + ARGUMENT + STATE,
        "int whyNot(int, int)" + INDEX + ARGUMENT,
        "long oddEven(int, int)" + INDEX + ARGUMENT + STATE,
        "int world(int, int)" + INDEX + ARGUMENT + STATE,
        "int about(int, int)" + INDEX + ARGUMENT,
        "int periodAnew(int)" + INDEX,
        "int paper(int, int)" + INDEX + STATE,
        "int withdraw(int)" + INDEX + STATE,
        "boolean hasFallen(int)" + INDEX,
    };
    private static final Check check = new Check();

    public static void main(String[] args) {
        theClass();
        methods();
        fields();
        classesInside();
        check.end();
    }

    private static void theClass() {
        int modifiers = Transitry.class.getModifiers();
        check.due("public and final", Modifier.isPublic(modifiers) && Modifier.isFinal(modifiers), true);
        check.dueText("no package", Transitry.class.getPackageName(), "");
        Constructor<?>[] constructors = Transitry.class.getDeclaredConstructors();
        check.due("one constructor", constructors.length, 1);
        check.due("it is public", Modifier.isPublic(constructors[0].getModifiers()), true);
        check.due("it takes nothing", constructors[0].getParameterCount(), 0);
    }

    private static void methods() {
        Set<String> found = new TreeSet<>();
        Set<String> names = new HashSet<>();
        for (Method method : Transitry.class.getDeclaredMethods()) {
            if (!Modifier.isPrivate(method.getModifiers())) {
                found.add((Modifier.isPublic(method.getModifiers()) ? "" : "not public ") + told(method));
                names.add(method.getName());
            }
        }
        check.dueText("methods that are not private", found.toString(), new TreeSet<>(Set.of(FACE)).toString());
        for (Method method : Transitry.class.getDeclaredMethods()) {
            if (Modifier.isPrivate(method.getModifiers())) {
                check.due(method.getName() + " bears a public name", names.contains(method.getName()), false);
            }
        }
    }

    private static String told(Method method) {
        StringBuilder text = new StringBuilder(method.getReturnType().getSimpleName() + " " + method.getName());
        String between = "(";
        for (Class<?> parameter : method.getParameterTypes()) {
            text.append(between).append(parameter.getSimpleName());
            between = ", ";
        }
        text.append(')');
        for (Class<?> exception : method.getExceptionTypes()) {
            text.append(' ').append(exception.getSimpleName());
        }
        return text.toString();
    }

    private static void fields() {
        check.due("NONE", Transitry.NONE, -1);
        for (Field field : Transitry.class.getDeclaredFields()) {
            int modifiers = field.getModifiers();
            boolean isNone = field.getName().equals("NONE");
            check.due(field.getName() + " is private", Modifier.isPrivate(modifiers), !isNone);
            check.due(field.getName() + " is public", Modifier.isPublic(modifiers), isNone);
        }
        checkStatics(Transitry.class);
    }

    private static void checkStatics(Class<?> holder) {
        int own = 0;
        for (Field field : holder.getDeclaredFields()) {
            if (Modifier.isStatic(field.getModifiers())) {
                check.due(field.getName() + " is final", Modifier.isFinal(field.getModifiers()), true);
                check.due(field.getName() + " is no double", field.getType() != double.class, true);
            } else {
                own++;
            }
        }
        check.due(holder.getSimpleName() + " has at most 20 fields", own <= 20, true);
    }

    private static void classesInside() {
        Class<?>[] inside = Transitry.class.getDeclaredClasses();
        check.due("at most 12 classes", inside.length < 12, true);
        for (Class<?> each : inside) {
            int modifiers = each.getModifiers();
            check.due(each.getSimpleName() + " is static", Modifier.isStatic(modifiers), true);
            check.due(each.getSimpleName() + " is not public",
                    Modifier.isPublic(modifiers) || Modifier.isProtected(modifiers), false);
            checkStatics(each);
        }
    }
}
