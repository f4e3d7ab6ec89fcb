import java.lang.reflect.Constructor;
import java.lang.reflect.Field;
import java.lang.reflect.Method;
import java.lang.reflect.Modifier;
import java.util.Arrays;
import java.util.Set;
import java.util.TreeSet;

/** The class has the document's face, and nothing else that can be seen from outside. */
public final class FaceTest {
    private static final String[] FACE = {
        "void feed(int,int,int,int,int) IllegalStateException",
        "int end(int) IllegalArgumentException",
        "int insert(int,int) IllegalArgumentException UnsupportedOperationException IllegalStateException",
        "int delete(int,int,int) IllegalArgumentException IllegalStateException",
        "int undo(int) IllegalArgumentException NoSuchElementException IllegalStateException",
        "int length(int) IllegalArgumentException",
        "int at(int,int) IllegalArgumentException",
        "int line(int,int) IllegalArgumentException NoSuchElementException",
        "int find(int,int) IllegalArgumentException UnsupportedOperationException",
        "long blame(int,int) IllegalArgumentException",
        "int events(int,int) IllegalArgumentException",
        "long head(int,int) IllegalArgumentException NoSuchElementException",
        "int related(int,int,int,int,int) IllegalArgumentException NoSuchElementException",
        "int critical(int) IllegalArgumentException",
        "int mark(int,int) IllegalArgumentException",
        "int view(int) IllegalArgumentException NoSuchElementException",
        "int viewed(int) IllegalArgumentException",
        "int differ(int,int) IllegalArgumentException NoSuchElementException UnsupportedOperationException",
        "int hunk(int,int) IllegalArgumentException NoSuchElementException",
        "void anchor(int,int,int) IllegalArgumentException",
        "int place(int) IllegalArgumentException NoSuchElementException",
        "int announce(int,int) IllegalArgumentException",
        "int send(int,int,int) IllegalArgumentException IllegalStateException",
        "int take(int,int) IllegalArgumentException NoSuchElementException UnsupportedOperationException"
            + " IllegalStateException",
        "int load(int) IllegalArgumentException NoSuchElementException UnsupportedOperationException"
            + " IllegalStateException",
        "int sync(int,int) IllegalArgumentException NoSuchElementException UnsupportedOperationException"
            + " IllegalStateException",
        "int alter(int,int,int) IllegalArgumentException NoSuchElementException",
        "int octet(int,int) IllegalArgumentException NoSuchElementException",
        "int fault()",
        "int crossed()"
    };

    private static int wrong = 0;

    public static void main(String[] args) {
        Set<String> names = new TreeSet<>();
        Set<String> seen = new TreeSet<>();
        for (Method method : WeaveText.class.getDeclaredMethods()) {
            if (Modifier.isPublic(method.getModifiers())) {
                names.add(method.getName());
                seen.add(tell(method));
            } else {
                check(Modifier.isPrivate(method.getModifiers()), method + " is not private");
            }
        }
        Set<String> due = new TreeSet<>(Arrays.asList(FACE));
        check(seen.equals(due), "the face is " + seen);
        check(Modifier.isFinal(WeaveText.class.getModifiers()), "the class is not final");
        Constructor<?>[] makers = WeaveText.class.getDeclaredConstructors();
        check(makers.length == 1 && makers[0].getParameterCount() == 0 && Modifier.isPublic(makers[0].getModifiers()),
            "the constructors are " + Arrays.toString(makers));
        for (Field field : WeaveText.class.getDeclaredFields()) {
            check(Modifier.isPrivate(field.getModifiers()), field + " is not private");
        }
        checkMembers(WeaveText.class, names);
        for (Class<?> inside : WeaveText.class.getDeclaredClasses()) {
            int bits = inside.getModifiers();
            check(Modifier.isStatic(bits) && !Modifier.isPublic(bits) && !Modifier.isProtected(bits),
                inside + " is not static or is seen");
            checkMembers(inside, names);
        }
        System.out.println("the face: " + wrong + " wrong");
        if (wrong > 0) {
            System.exit(1);
        }
    }

    private static String tell(Method method) {
        StringBuilder out = new StringBuilder(method.getReturnType() + " " + method.getName() + "(");
        for (Class<?> type : method.getParameterTypes()) {
            out.append(out.charAt(out.length() - 1) == '(' ? "" : ",").append(type);
        }
        out.append(")");
        for (Class<?> type : method.getExceptionTypes()) {
            out.append(" ").append(type.getSimpleName());
        }
        return out.toString();
    }

    /** Static fields are final; no private method bears a public one's name, and none takes more than seven. */
    private static void checkMembers(Class<?> type, Set<String> names) {
        for (Field field : type.getDeclaredFields()) {
            int bits = field.getModifiers();
            check(!Modifier.isStatic(bits) || Modifier.isFinal(bits), field + " is not final");
        }
        for (Method method : type.getDeclaredMethods()) {
            check(!Modifier.isPrivate(method.getModifiers()) || !names.contains(method.getName()),
                method + " bears the name of a public one");
            check(method.getParameterCount() <= 7, method + " takes too much");
        }
    }

    private static void check(boolean good, String fault) {
        if (!good) {
            wrong++;
            System.out.println(fault);
        }
    }
}
