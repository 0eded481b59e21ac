import java.lang.reflect.Constructor;
import java.lang.reflect.Field;
import java.lang.reflect.Method;
import java.lang.reflect.Modifier;
import java.util.Arrays;
import java.util.HashSet;
import java.util.List;
import java.util.Set;
import java.util.TreeSet;

/** Compares the face of SaltShares with the document's. */
public final class FaceTest {
    private static final String X = " throws IndexOutOfBoundsException";
    private static final String A = " throws IllegalArgumentException";
    private static final String S = " throws IllegalStateException";
    private static final String XA = X + ", IllegalArgumentException";
    private static final String XS = X + ", IllegalStateException";
    private static final String XAS = XA + ", IllegalStateException";
    private static final String AS = A + ", IllegalStateException";

    private static final List<String> METHODS = List.of(
            "int open(int, int, boolean)" + AS,
            "int end(int)" + XS,
            "int raise(int, int)" + XAS,
            "int lower(int, int)" + XAS,
            "int resalt(int, int)" + XAS,
            "int shake(int, int)" + XA,
            "int hold(int, int, boolean)" + XS,
            "int letGo(int, int)" + XS,
            "int pass(int)" + A,
            "int append(int)" + AS,
            "int clearBuffer()",
            "int firstError()",
            "int run()" + A,
            "int undo()" + S,
            "int eats(int, int)" + X,
            "int bucket(int, int)" + X,
            "int bread(int, int)" + XA,
            "int person(int, int)" + XA,
            "int owner(int, int)" + X,
            "int count(int)" + A,
            "int overlap(int, int)" + X,
            "int ifShare(int, int)" + XA,
            "int shareFor(int, int)" + XA,
            "int bestSalt(int, int)" + XA,
            "int nextEater(int)" + X,
            "double part(int)" + X,
            "long digest()");

    private static int wrong = 0;

    private static void check(String what, boolean holds) {
        if (!holds) {
            wrong++;
            System.out.println("face: " + what);
        }
    }

    private static String told(Class<?>[] types) {
        return String.join(", ", Arrays.stream(types).map(Class::getSimpleName).toList());
    }

    private static String told(Method method) {
        String thrown = told(method.getExceptionTypes());
        return method.getReturnType().getSimpleName() + " " + method.getName() + "(" + told(method.getParameterTypes())
                + ")" + (thrown.isEmpty() ? "" : " throws " + thrown);
    }

    private static boolean isOwn(int modifiers) {
        return Modifier.isPrivate(modifiers);
    }

    private static void checkMethods() {
        Set<String> publicOnes = new TreeSet<>();
        Set<String> publicNames = new HashSet<>();
        Set<String> privateNames = new HashSet<>();
        for (Method method : SaltShares.class.getDeclaredMethods()) {
            int modifiers = method.getModifiers();
            if (Modifier.isPublic(modifiers)) {
                publicOnes.add(told(method));
                publicNames.add(method.getName());
                check(method.getName() + " is static", !Modifier.isStatic(modifiers));
            } else {
                check(method.getName() + " is neither public nor private", isOwn(modifiers));
                privateNames.add(method.getName());
            }
        }
        check("methods are " + publicOnes, publicOnes.equals(new TreeSet<>(METHODS)));
        privateNames.retainAll(publicNames);
        check("private methods named as public ones: " + privateNames, privateNames.isEmpty());
    }

    private static void checkRest() throws ReflectiveOperationException {
        int modifiers = SaltShares.class.getModifiers();
        check("the class is not public and final", Modifier.isPublic(modifiers) && Modifier.isFinal(modifiers));
        for (Field field : SaltShares.class.getDeclaredFields()) {
            int its = field.getModifiers();
            check(field.getName() + " is not private", field.getName().equals("NONE") || isOwn(its));
            check(field.getName() + " is static and not final", !Modifier.isStatic(its) || Modifier.isFinal(its));
        }
        Field none = SaltShares.class.getDeclaredField("NONE");
        check("NONE", Modifier.isPublic(none.getModifiers()) && none.getType() == int.class && none.getInt(null) == -1);
        Constructor<?>[] constructors = SaltShares.class.getDeclaredConstructors();
        check("constructors", constructors.length == 1 && Modifier.isPublic(constructors[0].getModifiers())
                && constructors[0].getParameterCount() == 0);
        for (Class<?> inside : SaltShares.class.getDeclaredClasses()) {
            int its = inside.getModifiers();
            check(inside.getName() + " is public or not static", Modifier.isStatic(its) && !Modifier.isPublic(its)
                    && !Modifier.isProtected(its));
        }
    }

    public static void main(String[] args) throws ReflectiveOperationException {
        checkMethods();
        checkRest();
        System.out.println(wrong == 0 ? "the face is as due" : wrong + " things of the face are not as due");
        if (wrong != 0) {
            System.exit(1);
        }
    }
}
