import java.lang.reflect.InvocationTargetException;
import java.lang.reflect.Method;
import java.util.ArrayList;
import java.util.Comparator;
import java.util.List;
import java.util.function.Function;
import java.util.function.Supplier;

/**
 * What the boundary tests share. Each of them is a static method named after its promise and its case, as
 * p05_clauseOutOfRange, and makes its own offices, none of which answers more than 512 calls.
 */
final class Edges {
    static final String LETTERS = "bdklmnrstaeiou";
    static final String VOWELS = "aeiou";
    static final String INDEX = "IndexOutOfBoundsException";
    static final String ARGUMENT = "IllegalArgumentException";
    static final String STATE = "IllegalStateException";
    static final String ELEMENT = "NoSuchElementException";
    static final String ARITHMETIC = "ArithmeticException";
    static final String REFUSED = "UnsupportedOperationException";
    private static final String NAME = "p[0-9][0-9]_[a-zA-Z0-9]+";

    private Edges() {
    }

    static List<Method> testsOf(Class<?> tests) {
        List<Method> found = new ArrayList<>();
        for (Method method : tests.getDeclaredMethods()) {
            if (method.getName().matches(NAME)) {
                found.add(method);
            }
        }
        found.sort(Comparator.comparing(Method::getName));
        return found;
    }

    static void run(Class<?> tests) throws IllegalAccessException {
        List<Method> found = testsOf(tests);
        for (Method test : found) {
            Expect.begin(test.getName());
            int before = Expect.asked();
            try {
                test.invoke(null);
            } catch (InvocationTargetException e) {
                Expect.same("ends", "by itself", "by " + e.getCause());
            }
            Expect.same("asks something", true, Expect.asked() > before);
        }
        Expect.begin(tests.getSimpleName());
        Expect.same("has tests", false, found.isEmpty());
        System.out.println(tests.getSimpleName() + ": " + found.size() + " boundary cases");
        Expect.end(tests.getSimpleName());
    }

    // ---- offices

    static FerryTickets office(String... texts) {
        FerryTickets x = new FerryTickets();
        for (String text : texts) {
            Expect.read(x, text);
        }
        return x;
    }

    /** Each word has a ticket from pier 0 to pier 1 with a clause of 1 day. */
    static FerryTickets withWords(String... words) {
        FerryTickets x = new FerryTickets();
        for (String word : words) {
            Expect.print(x, word, 0, 1, 1);
        }
        return x;
    }

    static FerryTickets withTickets(int count) {
        FerryTickets x = new FerryTickets();
        for (int i = 0; i < count; i++) {
            Expect.print(x, "ba", 0, 1, 1);
        }
        return x;
    }

    /** One ticket with the word, whose half was punched in this mood. */
    static FerryTickets punched(String word, boolean isReturn, int mood) {
        FerryTickets x = withWords(word);
        setMood(x, 0, mood);
        x.punch(0, isReturn, 0);
        return x;
    }

    /** The same, torn, and the half wet by so much. */
    static FerryTickets washed(String word, boolean isReturn, int mood, int wet) {
        FerryTickets x = punched(word, isReturn, mood);
        x.tear(0);
        if (wet > 0) {
            x.wet(0, isReturn, wet);
        }
        return x;
    }

    static void setMood(FerryTickets x, int puncher, int mood) {
        if (mood != 0) {
            x.mood(puncher, mood);
        }
    }

    static void spell(FerryTickets x, String letters) {
        for (char letter : letters.toCharArray()) {
            x.letter(letter);
        }
    }

    static void days(FerryTickets x, int count) {
        for (int i = 0; i < count; i++) {
            x.day();
        }
    }

    /** An office in which nothing is as in a new one, and in which more was changed than can be undone. */
    static FerryTickets rich() {
        FerryTickets x = office("nbadu:0>3/2;nbide:4>1/1;m0=3;m2=4;c2;d", "nkolibu:2>3/9;nba:1>2/1;p0o=0;p0r=2;p1o=1");
        spell(x, "ko");
        x.snapshot();
        Expect.read(x, "g0o;w1r+4;t2;l2r;d;m1=2");
        spell(x, "tabu");
        Expect.read(x, "c4;d;w0r+2");
        x.unletter();
        x.wet(1, false, 1);
        x.pier(4, true);
        x.throwAway(3);
        Expect.outcome(() -> Expect.read(x, "d;;"));
        Expect.outcome(() -> Expect.read(x, "d;x9"));
        Expect.outcome(() -> x.pier(2, false));
        x.line(0);
        Expect.append(x, "d;m1=");
        return x;
    }

    // ---- what can be seen of an office, each part of it on an office of its own

    static String text(FerryTickets x) {
        StringBuilder text = new StringBuilder();
        for (int i = 0; Expect.outcome(atIndex(x, i)) instanceof Character sign; i++) {
            text.append(sign);
        }
        return text.toString();
    }

    private static Expect.Call atIndex(FerryTickets x, int index) {
        return () -> x.character(index);
    }

    static String moods(FerryTickets x) {
        StringBuilder text = new StringBuilder("moods");
        for (int puncher = 0; puncher < 3; puncher++) {
            text.append(' ').append(moodOf(x, puncher));
        }
        return text.toString();
    }

    /** The mood is 0 from then on, or the answer tells that it was. */
    private static Object moodOf(FerryTickets x, int puncher) {
        Object before = Expect.outcome(() -> x.mood(puncher, 0));
        return before.equals(REFUSED) ? 0 : before;
    }

    static String piers(FerryTickets x) {
        StringBuilder text = new StringBuilder("open");
        for (int i = 0; i < 5; i++) {
            int pier = i;
            boolean isOpen = Expect.outcome(() -> x.pier(pier, true)).equals(REFUSED);
            text.append(isOpen ? " " + pier : "");
        }
        return text.toString();
    }

    static String draft(FerryTickets x) {
        int length = x.account(1);
        if (length == 0) {
            return "draft";
        }
        if (x.account(0) == 8) {
            x.throwAway(0);
        }
        int more = Math.min(2, 6 - length);
        spell(x, "aa".substring(0, more));
        StringBuilder text = new StringBuilder("draft ");
        Object ticket = Expect.outcome(() -> x.print(0, 1, 1));
        for (int place = 0; ticket instanceof Integer number && place < length; place++) {
            text.append(x.wordAt(number, place));
        }
        return text.append(length).toString();
    }

    /** All that changes can change, as it is now. */
    static String now(Supplier<FerryTickets> made) {
        return Expect.digest(made.get()) + moods(made.get()) + piers(made.get()) + draft(made.get());
    }

    static String undoable(Supplier<FerryTickets> made) {
        int count = made.get().account(13);
        StringBuilder text = new StringBuilder();
        for (int i = 1; i <= count; i++) {
            int times = i;
            text.append(times).append(now(() -> undone(made.get(), times)));
        }
        return text.append(Expect.outcome(() -> undone(made.get(), count).undo())).toString();
    }

    static FerryTickets undone(FerryTickets x, int times) {
        for (int i = 0; i < times; i++) {
            x.undo();
        }
        return x;
    }

    static String saved(Supplier<FerryTickets> made) {
        Object outcome = Expect.outcome(() -> made.get().restore());
        return outcome.equals(STATE) ? STATE : now(() -> restored(made.get()));
    }

    static FerryTickets restored(FerryTickets x) {
        x.restore();
        return x;
    }

    static String buffer(Supplier<FerryTickets> made) {
        FerryTickets x = made.get();
        String text = x.account(12) + " " + Expect.outcome(() -> x.read()) + " " + faults(x);
        return text + now(() -> afterRead(made.get()));
    }

    static FerryTickets afterRead(FerryTickets x) {
        Expect.outcome(() -> x.read());
        return x;
    }

    static String faults(FerryTickets x) {
        return Expect.outcome(() -> x.errorPosition()) + " " + Expect.outcome(() -> x.refusedItem());
    }

    static String refusal(FerryTickets x) {
        return Expect.outcome(() -> x.refusal(false)) + " " + Expect.outcome(() -> x.refusal(true));
    }

    /** What neither undo nor a snapshot knows: buffer, line, error position, refused item and refusal. */
    static String beside(Supplier<FerryTickets> made) {
        return buffer(made) + " " + text(made.get()) + " " + faults(made.get()) + " " + refusal(made.get());
    }

    static String all(Supplier<FerryTickets> made) {
        return now(made) + undoable(made) + saved(made) + beside(made);
    }

    // ---- calls that leave all as it is

    /** The call throws this and leaves all unchanged. */
    static void unchanged(String due, Supplier<FerryTickets> made, Function<FerryTickets, Object> call) {
        Supplier<FerryTickets> after = () -> called(made.get(), due, call);
        Expect.same("unchanged", all(made), all(after));
    }

    /** The call is refused, and leaves all unchanged but the refusal. */
    static void refused(int reason, int detail, Supplier<FerryTickets> made, Function<FerryTickets, Object> call) {
        Supplier<FerryTickets> after = () -> called(made.get(), REFUSED, call);
        Expect.same("reason and detail", reason + " " + detail, refusal(after.get()));
        Expect.same("unchanged", now(made) + undoable(made) + saved(made), now(after) + undoable(after) + saved(after));
        Expect.same("buffer", buffer(made), buffer(after));
        Expect.same("line and faults", text(made.get()) + faults(made.get()), text(after.get()) + faults(after.get()));
    }

    private static FerryTickets called(FerryTickets x, String due, Function<FerryTickets, Object> call) {
        Expect.same("throws", due, Expect.outcome(() -> call.apply(x)));
        return x;
    }

    /** The call answers, and leaves all unchanged but perhaps the line. */
    static void onlyAsks(Supplier<FerryTickets> made, Function<FerryTickets, Object> call) {
        Supplier<FerryTickets> after = () -> {
            FerryTickets x = made.get();
            call.apply(x);
            return x;
        };
        Expect.same("unchanged", now(made) + undoable(made) + saved(made), now(after) + undoable(after) + saved(after));
        Expect.same("buffer", buffer(made), buffer(after));
        Expect.same("faults", faults(made.get()) + refusal(made.get()), faults(after.get()) + refusal(after.get()));
    }

    /** What stands beside the changes is the same before and after the call in the rich office. */
    static void besideStays(Function<FerryTickets, Object> call) {
        FerryTickets x = rich();
        String before = text(x) + faults(x) + refusal(x) + x.account(12);
        call.apply(x);
        Expect.same("beside", before, text(x) + faults(x) + refusal(x) + x.account(12));
        Expect.same("the text in the buffer", "5", bufferFault(x));
    }

    /** In the rich office the buffer holds "d;m1=", to which no digit is added. */
    private static String bufferFault(FerryTickets x) {
        Expect.append(x, "q");
        Expect.argument("read", () -> x.read());
        return "" + x.errorPosition();
    }

    // ---- numbers out of range

    static final int[] BELOW = {-1, -2, Integer.MIN_VALUE, Integer.MIN_VALUE + 1};

    /** The call throws this for each number below 0, for the bound, and for numbers above it. */
    static void outside(String due, int bound, Function<Integer, Object> call) {
        int[] above = {bound, bound + 1, bound + 255, 65536, Integer.MAX_VALUE};
        for (int[] numbers : new int[][] {BELOW, above}) {
            for (int number : numbers) {
                Expect.same("" + number, due, Expect.outcome(() -> call.apply(number)));
            }
        }
    }
}
