import java.lang.reflect.Constructor;
import java.lang.reflect.Field;
import java.lang.reflect.Method;
import java.lang.reflect.Modifier;
import java.util.Arrays;
import java.util.TreeSet;

/** The public face: every member of the document, with its exceptions in their order, and no other. */
public final class FaceTest {
    private static final String[] FACE = {
        "int pledge(int, int, int) throws IndexOutOfBoundsException, IllegalArgumentException, UnsupportedOperationException",
        "int rate(int) throws IllegalArgumentException, UnsupportedOperationException",
        "int fee(int) throws IllegalArgumentException, UnsupportedOperationException",
        "int pass(int) throws IllegalArgumentException",
        "int redeem(int) throws NoSuchElementException, UnsupportedOperationException",
        "int pay(int, int) throws NoSuchElementException, IllegalArgumentException, UnsupportedOperationException",
        "int renew(int) throws NoSuchElementException, UnsupportedOperationException",
        "int pledgeOf(int, int) throws NoSuchElementException, IllegalArgumentException",
        "int sell(int, int) throws NoSuchElementException, IllegalArgumentException, UnsupportedOperationException",
        "int claim(int) throws IndexOutOfBoundsException, UnsupportedOperationException",
        "int lotAt(int) throws NoSuchElementException",
        "int ranked(int) throws NoSuchElementException",
        "int quote(int, int) throws NoSuchElementException, IllegalArgumentException, IllegalStateException",
        "int quoteAgain(int, int) throws NoSuchElementException, IllegalArgumentException, IllegalStateException",
        "int willBeLots(int) throws IllegalArgumentException",
        "int willBeLotsAgain(int) throws IllegalArgumentException",
        "int willReserve(int, int) throws NoSuchElementException, IllegalArgumentException, IllegalStateException",
        "int ownerOf(int, int) throws IndexOutOfBoundsException, IllegalArgumentException",
        "int cash(boolean)",
        "boolean isWell()",
        "int line(int) throws NoSuchElementException",
        "char character(int) throws IndexOutOfBoundsException",
        "int append(char) throws IllegalStateException",
        "int run() throws IllegalArgumentException, UnsupportedOperationException",
        "int errorPosition()",
        "int refusal(boolean, boolean) throws NoSuchElementException",
        "int account(int) throws IllegalArgumentException",
        "double meanLoan() throws ArithmeticException",
        "float redeemedShare() throws ArithmeticException",
        "int undo() throws IllegalStateException",
        "int save()",
        "int restore() throws IllegalStateException"};

    public static void main(String[] args) {
        Class<?> type = CoatPledges.class;
        Checks.same("public and final", type.getModifiers(), Modifier.PUBLIC | Modifier.FINAL);
        Checks.same("no class above", type.getSuperclass(), Object.class);
        TreeSet<String> open = new TreeSet<>();
        TreeSet<String> names = new TreeSet<>();
        TreeSet<String> closed = new TreeSet<>();
        for (Method method : type.getDeclaredMethods()) {
            if (method.isSynthetic()) {
                continue;
            }
            if (Modifier.isPrivate(method.getModifiers())) {
                closed.add(method.getName());
            } else {
                open.add((Modifier.isStatic(method.getModifiers()) ? "static " : "") + textOf(method));
                names.add(method.getName());
            }
        }
        Checks.same("methods", open, new TreeSet<>(Arrays.asList(FACE)));
        for (Class<?> inside : type.getDeclaredClasses()) {
            boolean isOpen = Modifier.isPublic(inside.getModifiers()) || Modifier.isProtected(inside.getModifiers());
            Checks.same("public or protected: " + inside, isOpen, false);
        }
        closed.retainAll(names);
        Checks.same("private methods with a name of the face", closed, new TreeSet<String>());
        for (Field field : type.getDeclaredFields()) {
            Checks.same("private: " + field, field.isSynthetic() || Modifier.isPrivate(field.getModifiers()), true);
        }
        Constructor<?>[] constructors = type.getDeclaredConstructors();
        Checks.same("constructors", constructors.length, 1);
        Checks.same("public constructor", Modifier.isPublic(constructors[0].getModifiers()), true);
        Checks.same("without parameters", constructors[0].getParameterCount(), 0);
        Checks.same("exceptions of the constructor", constructors[0].getExceptionTypes().length, 0);
        Checks.end("FaceTest");
    }

    private static String textOf(Method method) {
        StringBuilder text = new StringBuilder(method.getReturnType().getSimpleName()).append(' ');
        text.append(method.getName()).append('(').append(namesOf(method.getParameterTypes())).append(')');
        if (method.getExceptionTypes().length > 0) {
            text.append(" throws ").append(namesOf(method.getExceptionTypes()));
        }
        return text.toString();
    }

    private static String namesOf(Class<?>[] types) {
        StringBuilder text = new StringBuilder();
        for (Class<?> type : types) {
            text.append(text.length() == 0 ? "" : ", ").append(type.getSimpleName());
        }
        return text.toString();
    }
}
