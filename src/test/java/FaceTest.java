import java.lang.reflect.Constructor;
import java.lang.reflect.Field;
import java.lang.reflect.Method;
import java.lang.reflect.Modifier;
import java.util.ArrayList;
import java.util.Arrays;
import java.util.List;

/** The public face: each method of the document and nothing else. */
public final class FaceTest {
    private static final String FACE = """
        char character(int) IndexOutOfBoundsException
        char readAt(int, boolean, int) IndexOutOfBoundsException NoSuchElementException
        char wordAt(int, int) IndexOutOfBoundsException NoSuchElementException
        boolean doAgree(int, boolean) IndexOutOfBoundsException
        boolean isRight()
        double meanWet() ArithmeticException
        float readShare() ArithmeticException
        int account(int) IllegalArgumentException
        int append(int) IllegalArgumentException IllegalStateException
        int clear()
        int day()
        int daysLeft(int) IndexOutOfBoundsException NoSuchElementException
        int errorPosition() NoSuchElementException
        int find(int, boolean) IndexOutOfBoundsException UnsupportedOperationException
        int halfOf(int, boolean, int) IndexOutOfBoundsException IllegalArgumentException
        int hinders(int, boolean) IndexOutOfBoundsException
        int holeLine(int, boolean) IndexOutOfBoundsException NoSuchElementException
        int letter(char) IllegalArgumentException UnsupportedOperationException
        int likely(int, boolean) IndexOutOfBoundsException NoSuchElementException
        int line(int) IndexOutOfBoundsException
        int lose(int, boolean) IndexOutOfBoundsException UnsupportedOperationException
        int mood(int, int) IndexOutOfBoundsException IllegalArgumentException UnsupportedOperationException
        int moodFor(int, boolean) IndexOutOfBoundsException NoSuchElementException
        int often(char) IllegalArgumentException
        int pier(int, boolean) IndexOutOfBoundsException UnsupportedOperationException
        int print(int, int, int) IndexOutOfBoundsException IllegalArgumentException UnsupportedOperationException
        int punch(int, boolean, int) IndexOutOfBoundsException UnsupportedOperationException
        int ranked(int, int) IllegalArgumentException NoSuchElementException
        int read() IllegalArgumentException UnsupportedOperationException
        int refusal(boolean) IllegalStateException
        int refusedItem() NoSuchElementException
        int restore() IllegalStateException
        int ride(int, boolean) IndexOutOfBoundsException UnsupportedOperationException
        int sharing(int) IndexOutOfBoundsException
        int snapshot()
        int tear(int) IndexOutOfBoundsException UnsupportedOperationException
        int throwAway(int) IndexOutOfBoundsException
        int ticketOf(int, int) IndexOutOfBoundsException IllegalArgumentException
        int undo() IllegalStateException
        int unletter() UnsupportedOperationException
        int wet(int, boolean, int) IndexOutOfBoundsException IllegalArgumentException
        int words()
        int would(int, boolean, int) IndexOutOfBoundsException IllegalArgumentException NoSuchElementException
        """;

    public static void main(String[] args) {
        List<String> due = new ArrayList<>(Arrays.asList(FACE.split("\n")));
        List<String> got = new ArrayList<>();
        List<String> publicNames = new ArrayList<>();
        for (Method method : FerryTickets.class.getDeclaredMethods()) {
            if (!Modifier.isPrivate(method.getModifiers())) {
                got.add(described(method));
                publicNames.add(method.getName());
                Expect.same(method + " is public and not static", Modifier.PUBLIC, method.getModifiers());
            }
        }
        due.sort(null);
        got.sort(null);
        Expect.same("face", due, got);
        Expect.same("final", true, Modifier.isFinal(FerryTickets.class.getModifiers()));
        Constructor<?>[] constructors = FerryTickets.class.getDeclaredConstructors();
        Expect.same("one constructor", 1, constructors.length);
        Expect.same("without arguments", 0, constructors[0].getParameterCount());
        for (Field field : FerryTickets.class.getDeclaredFields()) {
            Expect.same(field + " is private", true, Modifier.isPrivate(field.getModifiers()));
            if (Modifier.isStatic(field.getModifiers())) {
                Expect.same(field + " is final", true, Modifier.isFinal(field.getModifiers()));
            }
        }
        privateNames(FerryTickets.class, publicNames);
        for (Class<?> inside : FerryTickets.class.getDeclaredClasses()) {
            privateNames(inside, publicNames);
        }
        Expect.end("FaceTest");
    }

    private static void privateNames(Class<?> one, List<String> publicNames) {
        for (Method method : one.getDeclaredMethods()) {
            if (Modifier.isPrivate(method.getModifiers())) {
                Expect.same(method + " has a name of its own", false, publicNames.contains(method.getName()));
            }
        }
    }

    private static String described(Method method) {
        StringBuilder text = new StringBuilder(method.getReturnType() + " " + method.getName() + "(");
        for (int i = 0; i < method.getParameterCount(); i++) {
            text.append(i == 0 ? "" : ", ").append(method.getParameterTypes()[i]);
        }
        text.append(")");
        for (Class<?> exception : method.getExceptionTypes()) {
            text.append(" ").append(exception.getSimpleName());
        }
        return text.toString();
    }
}
