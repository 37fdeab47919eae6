import java.lang.reflect.Method;
import java.util.List;
import java.util.TreeSet;

/** Each promise has boundary cases, and no two cases have one name. */
public final class EdgesTest {
    private static final List<Class<?>> ALL = List.of(TicketEdgesTest.class, HalfEdgesTest.class, RideEdgesTest.class,
        LineEdgesTest.class, InputEdgesTest.class, UndoEdgesTest.class);
    private static final int PROMISES = 44;

    public static void main(String[] args) {
        TreeSet<String> promises = new TreeSet<>();
        TreeSet<String> names = new TreeSet<>();
        for (Class<?> one : ALL) {
            for (Method test : Edges.testsOf(one)) {
                Expect.same(test.getName() + " is a name of its own", true, names.add(test.getName()));
                promises.add(test.getName().substring(0, 3));
            }
        }
        for (int promise = 1; promise <= PROMISES; promise++) {
            String name = (promise < 10 ? "p0" : "p") + promise;
            Expect.same(name + " has boundary cases", true, promises.contains(name));
        }
        Expect.end("EdgesTest");
    }
}
