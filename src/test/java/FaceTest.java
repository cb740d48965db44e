import java.lang.reflect.Constructor;
import java.lang.reflect.Field;
import java.lang.reflect.Method;
import java.lang.reflect.Modifier;
import java.util.Set;
import java.util.TreeSet;

/** The public face of the document, and rule 1 of LANGUAGE.md: that and nothing more. */
public final class FaceTest {
    private static final String[] FACE = {
        "int owner() throws UnsupportedOperationException",
        "int account(int, int) throws NoSuchElementException, IllegalArgumentException, UnsupportedOperationException",
        "void month(int) throws IllegalArgumentException",
        "int close(int) throws IllegalArgumentException, IllegalStateException",
        "int batch(int) throws IllegalArgumentException, IllegalStateException, UnsupportedOperationException",
        "int row(int, int, long) throws NoSuchElementException, IllegalArgumentException, IllegalStateException, UnsupportedOperationException",
        "void breaks(int, int, boolean) throws NoSuchElementException, IllegalStateException",
        "int post(int) throws NoSuchElementException, IllegalStateException",
        "int reverse(int) throws NoSuchElementException, IllegalStateException, UnsupportedOperationException",
        "long balance(int, int) throws NoSuchElementException, IllegalArgumentException",
        "long all(int) throws IllegalArgumentException",
        "int invoice(int, long, int) throws NoSuchElementException, IllegalArgumentException, IllegalStateException, UnsupportedOperationException",
        "int pay(int, long) throws NoSuchElementException, IllegalArgumentException",
        "long settle(int, long) throws NoSuchElementException, IllegalArgumentException",
        "long dispute(int, boolean) throws NoSuchElementException, IllegalStateException",
        "int dun(int) throws NoSuchElementException, IllegalStateException",
        "void rate(int) throws IllegalArgumentException",
        "long interest(int, int) throws NoSuchElementException, IllegalArgumentException",
        "int hold(int, boolean) throws NoSuchElementException, IllegalStateException",
        "int told(int, int) throws NoSuchElementException, IllegalArgumentException",
        "long known(int, int) throws NoSuchElementException, IllegalArgumentException",
        "long credit(int) throws NoSuchElementException",
        "int count(int)",
    };

    public static void main(String[] args) {
        Check check = new Check();
        int modifiers = OwnerLedger.class.getModifiers();
        check.same("the class is public and final", "true",
                String.valueOf(Modifier.isPublic(modifiers) && Modifier.isFinal(modifiers)));
        check.same("methods", new TreeSet<>(Set.of(FACE)).toString(), visibleMethods().toString());
        for (Field field : OwnerLedger.class.getDeclaredFields()) {
            check.same("field " + field.getName() + " is private", "true",
                    String.valueOf(Modifier.isPrivate(field.getModifiers())));
        }
        Constructor<?>[] constructors = OwnerLedger.class.getDeclaredConstructors();
        check.same("constructors", "1", String.valueOf(constructors.length));
        check.same("the constructor", "public OwnerLedger()", constructors[0].toString());
        checkClassesInside(check);
        checkPrivateNames(check);
        check.end();
    }

    private static void checkClassesInside(Check check) {
        for (Class<?> inside : OwnerLedger.class.getDeclaredClasses()) {
            int modifiers = inside.getModifiers();
            boolean hidden = !Modifier.isPublic(modifiers) && !Modifier.isProtected(modifiers);
            check.same("class " + inside.getSimpleName() + " is hidden and static", "true",
                    String.valueOf(hidden && Modifier.isStatic(modifiers)));
        }
    }

    private static void checkPrivateNames(Check check) {
        Set<String> faceNames = new TreeSet<>();
        Set<String> privateNames = new TreeSet<>();
        for (Method method : OwnerLedger.class.getDeclaredMethods()) {
            boolean hidden = Modifier.isPrivate(method.getModifiers());
            (hidden ? privateNames : faceNames).add(method.getName());
        }
        privateNames.retainAll(faceNames);
        check.same("private methods that bear a public one's name", "[]", privateNames.toString());
    }

    private static Set<String> visibleMethods() {
        Set<String> visible = new TreeSet<>();
        for (Method method : OwnerLedger.class.getDeclaredMethods()) {
            if (!Modifier.isPrivate(method.getModifiers())) {
                visible.add(describe(method));
            }
        }
        return visible;
    }

    private static String describe(Method method) {
        String text = method.getReturnType().getSimpleName() + " " + method.getName()
                + "(" + names(method.getParameterTypes()) + ")";
        Class<?>[] thrown = method.getExceptionTypes();
        return thrown.length == 0 ? text : text + " throws " + names(thrown);
    }

    private static String names(Class<?>[] types) {
        StringBuilder text = new StringBuilder();
        for (Class<?> type : types) {
            text.append(text.length() == 0 ? "" : ", ").append(type.getSimpleName());
        }
        return text.toString();
    }
}
