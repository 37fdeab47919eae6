import java.util.ArrayDeque;
import java.util.ArrayList;
import java.util.Arrays;
import java.util.Collections;
import java.util.Deque;
import java.util.HashSet;
import java.util.List;
import java.util.NoSuchElementException;
import java.util.regex.Matcher;
import java.util.regex.Pattern;

/** The document written a second time, with texts, lists and deep copies, to be compared with FerryTickets. */
public final class Model {
    private static final String CONSONANTS = "bdklmnrst";
    private static final String VOWELS = "aeiou";
    private static final String ORDER = "(?:n[" + CONSONANTS + VOWELS + "]{1,6}:[0-9]>[0-9]/[0-9]"
        + "|p[0-9][or]=[0-9]|w[0-9][or]\\+[0-9]|[lfg][0-9][or]|m[0-9]=[0-9]|[tcox][0-9]|d)";
    private static final Pattern ORDERS = Pattern.compile(ORDER + "(?:;" + ORDER + ")*");

    static final class Half {
        int mood = -1;
        int wet = 0;
        boolean lost = false;
        boolean ridden = false;

        Half copy() {
            Half one = new Half();
            one.mood = mood;
            one.wet = wet;
            one.lost = lost;
            one.ridden = ridden;
            return one;
        }
    }

    static final class Ticket {
        String word = "";
        int from;
        int to;
        int clause;
        boolean joined = true;
        int outDay = -1;
        List<Half> halves = List.of(new Half(), new Half());

        Ticket copy() {
            Ticket one = new Ticket();
            one.word = word;
            one.from = from;
            one.to = to;
            one.clause = clause;
            one.joined = joined;
            one.outDay = outDay;
            one.halves = List.of(halves.get(0).copy(), halves.get(1).copy());
            return one;
        }
    }

    static final class State {
        String draft = "";
        List<Ticket> tickets = new ArrayList<>();
        int[] moods = new int[3];
        boolean[] closed = new boolean[5];
        int day;
        int printed;
        int out;
        int back;
        int punched;

        State copy() {
            State one = new State();
            one.draft = draft;
            for (Ticket ticket : tickets) {
                one.tickets.add(ticket.copy());
            }
            one.moods = moods.clone();
            one.closed = closed.clone();
            one.day = day;
            one.printed = printed;
            one.out = out;
            one.back = back;
            one.punched = punched;
            return one;
        }
    }

    private State s = new State();
    private final Deque<State> past = new ArrayDeque<>();
    private State saved = null;
    private String buffer = "";
    private String line = "";
    private Integer errorPosition = null;
    private Integer refusedItem = null;
    private int[] refusal = null;

    private void changed(State before) {
        past.addLast(before);
        if (past.size() > 8) {
            past.removeFirst();
        }
    }

    private UnsupportedOperationException no(int reason, int detail) {
        refusal = new int[] {reason, detail};
        return new UnsupportedOperationException();
    }

    private Ticket at(int ticket) {
        if (ticket < 0 || ticket >= s.tickets.size()) {
            throw new IndexOutOfBoundsException();
        }
        return s.tickets.get(ticket);
    }

    private static void range(int number, int low, int high) {
        if (number < low || number > high) {
            throw new IllegalArgumentException();
        }
    }

    private static void inside(int index, int size) {
        if (index < 0 || index >= size) {
            throw new IndexOutOfBoundsException();
        }
    }

    private static Half half(Ticket t, boolean isReturn) {
        return t.halves.get(isReturn ? 1 : 0);
    }

    private static Half punched(Ticket t, boolean isReturn) {
        Half h = half(t, isReturn);
        if (h.mood < 0) {
            throw new NoSuchElementException();
        }
        return h;
    }

    /** The holes of each place, -1 for a consonant. */
    private static int[] holes(String word, int mood, int wet) {
        int[] holes = new int[word.length()];
        for (int i = 0; i < holes.length; i++) {
            int vowel = VOWELS.indexOf(word.charAt(i));
            holes[i] = vowel < 0 ? -1 : mood < 0 ? 0 : (vowel + mood) % 5 + 1;
            for (int closing = 3; closing <= wet && holes[i] > 0; closing += 3) {
                holes[i]--;
            }
        }
        return holes;
    }

    private static int sum(int[] holes) {
        return Arrays.stream(holes).filter(one -> one > 0).sum();
    }

    private static String seen(String word, int punchMood, int readMood, int wet) {
        int[] holes = holes(word, punchMood, wet);
        StringBuilder text = new StringBuilder(word);
        for (int i = 0; i < holes.length; i++) {
            if (holes[i] == 0) {
                text.setCharAt(i, '?');
            } else if (holes[i] > 0) {
                text.setCharAt(i, VOWELS.charAt((holes[i] - 1 - readMood + 10) % 5));
            }
        }
        return text.toString();
    }

    private static String seen(String word, Half h) {
        return seen(word, h.mood, h.mood, h.wet);
    }

    private static int unlike(String one, String other) {
        int count = Math.abs(one.length() - other.length());
        for (int i = 0; i < one.length() && i < other.length(); i++) {
            count += one.charAt(i) == other.charAt(i) ? 0 : 1;
        }
        return count;
    }

    public int clear() {
        int count = s.tickets.size();
        s = new State();
        past.clear();
        return count;
    }

    public int letter(char letter) {
        if ((CONSONANTS + VOWELS).indexOf(letter) < 0) {
            throw new IllegalArgumentException();
        }
        if (s.draft.length() == 6) {
            throw no(1, 6);
        }
        changed(s.copy());
        s.draft += letter;
        return s.draft.length();
    }

    public int unletter() {
        if (s.draft.isEmpty()) {
            throw no(11, s.tickets.size());
        }
        changed(s.copy());
        s.draft = s.draft.substring(0, s.draft.length() - 1);
        return s.draft.length();
    }

    public int print(int from, int to, int clause) {
        State before = s.copy();
        print(s.draft, from, to, clause);
        s.draft = "";
        changed(before);
        return s.tickets.size() - 1;
    }

    private void print(String word, int from, int to, int clause) {
        inside(from, 5);
        inside(to, 5);
        if (from == to) {
            throw new IllegalArgumentException();
        }
        range(clause, 1, 9);
        if (word.length() < 2 || word.chars().noneMatch(c -> VOWELS.indexOf(c) >= 0)) {
            throw no(2, word.length());
        }
        if (s.tickets.size() == 8) {
            throw no(1, 8);
        }
        Ticket t = new Ticket();
        t.word = word;
        t.from = from;
        t.to = to;
        t.clause = clause;
        s.tickets.add(t);
        s.printed++;
    }

    public int throwAway(int ticket) {
        at(ticket);
        changed(s.copy());
        s.tickets.remove(ticket);
        return s.tickets.size();
    }

    public int mood(int puncher, int mood) {
        inside(puncher, 3);
        range(mood, 0, 4);
        int before = s.moods[puncher];
        if (before == mood) {
            throw no(3, mood);
        }
        changed(s.copy());
        s.moods[puncher] = mood;
        return before;
    }

    public int pier(int pier, boolean isOpen) {
        inside(pier, 5);
        if (s.closed[pier] != isOpen) {
            throw no(3, isOpen ? 1 : 0);
        }
        changed(s.copy());
        s.closed[pier] = !isOpen;
        return account(3);
    }

    public int ticketOf(int ticket, int what) {
        Ticket t = at(ticket);
        range(what, 0, 6);
        int vowels = (int) t.word.chars().filter(c -> VOWELS.indexOf(c) >= 0).count();
        return List.of(t.word.length(), vowels, t.from, t.to, t.clause, t.joined ? 0 : 1, t.outDay).get(what);
    }

    public char wordAt(int ticket, int place) {
        Ticket t = at(ticket);
        if (place < 0 || place >= t.word.length()) {
            throw new NoSuchElementException();
        }
        return t.word.charAt(place);
    }

    public int punch(int ticket, boolean isReturn, int puncher) {
        Ticket t = at(ticket);
        inside(puncher, 3);
        if (half(t, isReturn).mood >= 0) {
            throw no(3, 1);
        }
        changed(s.copy());
        half(t, isReturn).mood = s.moods[puncher];
        int holes = sum(holes(t.word, s.moods[puncher], 0));
        s.punched += holes;
        return holes;
    }

    public int wet(int ticket, boolean isReturn, int by) {
        Ticket t = at(ticket);
        range(by, 1, 9);
        changed(s.copy());
        half(t, isReturn).wet = Math.min(9, half(t, isReturn).wet + by);
        if (t.joined) {
            half(t, !isReturn).wet = Math.min(9, half(t, !isReturn).wet + by / 2);
        }
        if (t.halves.stream().anyMatch(h -> h.wet >= 6)) {
            t.joined = false;
        }
        return half(t, isReturn).wet;
    }

    public int tear(int ticket) {
        Ticket t = at(ticket);
        if (!t.joined) {
            throw no(3, 1);
        }
        changed(s.copy());
        t.joined = false;
        return account(4);
    }

    public int lose(int ticket, boolean isReturn) {
        return setLost(ticket, isReturn, true);
    }

    public int find(int ticket, boolean isReturn) {
        return setLost(ticket, isReturn, false);
    }

    private int setLost(int ticket, boolean isReturn, boolean lost) {
        Ticket t = at(ticket);
        if (half(t, isReturn).lost == lost) {
            throw no(3, 1);
        }
        changed(s.copy());
        for (Half h : t.joined ? t.halves : List.of(half(t, isReturn))) {
            h.lost = lost;
        }
        return account(5);
    }

    public int halfOf(int ticket, boolean isReturn, int what) {
        Ticket t = at(ticket);
        Half h = half(t, isReturn);
        range(what, 0, 7);
        int right = h.mood < 0 ? 0 : t.word.length() - unlike(seen(t.word, h), t.word);
        return List.of(h.mood < 0 ? 0 : 1, h.mood, h.wet, sum(holes(t.word, h.mood, 0)),
            sum(holes(t.word, h.mood, h.wet)), h.lost ? 1 : 0, h.ridden ? 1 : 0, right).get(what);
    }

    public char readAt(int ticket, boolean isReturn, int place) {
        Ticket t = at(ticket);
        Half h = punched(t, isReturn);
        if (place < 0 || place >= t.word.length()) {
            throw new NoSuchElementException();
        }
        return seen(t.word, h).charAt(place);
    }

    public boolean doAgree(int ticket, boolean isAgain) {
        Ticket t = at(ticket);
        return half(t, false).mood >= 0 && half(t, true).mood >= 0
            && seen(t.word, half(t, false)).equals(seen(t.word, half(t, true)));
    }

    public int moodFor(int ticket, boolean isReturn) {
        Ticket t = at(ticket);
        Half h = punched(t, isReturn);
        for (int mood = 0; mood < 5; mood++) {
            if (seen(t.word, h.mood, mood, h.wet).equals(t.word)) {
                return mood;
            }
        }
        throw new NoSuchElementException();
    }

    public int would(int ticket, boolean isReturn, int by) {
        Ticket t = at(ticket);
        range(by, 0, 9);
        Half h = punched(t, isReturn);
        return t.word.length() - unlike(t.word, seen(t.word, h.mood, h.mood, Math.min(9, h.wet + by)));
    }

    public int likely(int ticket, boolean isReturn) {
        Ticket t = at(ticket);
        String text = seen(t.word, punched(t, isReturn));
        List<Integer> distances = new ArrayList<>();
        for (Ticket other : s.tickets) {
            distances.add(unlike(text, other.word));
        }
        return distances.indexOf(Collections.min(distances));
    }

    public int ride(int ticket, boolean isReturn) {
        Ticket t = at(ticket);
        int[] why = why(t, isReturn);
        if (why[0] != 0) {
            throw no(why[0], why[1]);
        }
        changed(s.copy());
        half(t, isReturn).ridden = true;
        if (isReturn) {
            s.back++;
        } else {
            s.out++;
            t.outDay = s.day;
        }
        return s.out + s.back;
    }

    private int[] why(Ticket t, boolean isReturn) {
        Half h = half(t, isReturn);
        int which = isReturn ? 1 : 0;
        if (h.lost) {
            return new int[] {4, which};
        }
        if (h.mood < 0) {
            return new int[] {5, which};
        }
        if (h.ridden) {
            return new int[] {6, which};
        }
        if (isReturn && t.outDay < 0) {
            return new int[] {7, s.day};
        }
        if (isReturn && s.day > t.outDay + t.clause) {
            return new int[] {8, s.day - t.outDay};
        }
        for (int pier = 0; pier < 5; pier++) {
            if ((pier == t.from || pier == t.to) && s.closed[pier]) {
                return new int[] {9, pier};
            }
        }
        String text = seen(t.word, h);
        for (int i = 0; i < text.length(); i++) {
            if (text.charAt(i) != t.word.charAt(i)) {
                return new int[] {10, i};
            }
        }
        return new int[] {0, 0};
    }

    public int hinders(int ticket, boolean isReturn) {
        return why(at(ticket), isReturn)[0];
    }

    public int day() {
        changed(s.copy());
        return ++s.day;
    }

    public int daysLeft(int ticket) {
        Ticket t = at(ticket);
        if (t.outDay < 0) {
            throw new NoSuchElementException();
        }
        int last = t.outDay + t.clause;
        return s.day > last ? -1 : last - s.day;
    }

    public int words() {
        HashSet<String> words = new HashSet<>();
        s.tickets.forEach(t -> words.add(t.word));
        return words.size();
    }

    public int sharing(int ticket) {
        String word = at(ticket).word;
        return (int) s.tickets.stream().filter(t -> t.word.equals(word)).count();
    }

    public int often(char letter) {
        if ((CONSONANTS + VOWELS).indexOf(letter) < 0) {
            throw new IllegalArgumentException();
        }
        return s.tickets.stream().mapToInt(t -> (int) t.word.chars().filter(c -> c == letter).count()).sum();
    }

    public int ranked(int measure, int place) {
        range(measure, 0, 2);
        List<Ticket> order = new ArrayList<>(s.tickets);
        order.sort((one, other) -> measure(measure, other) - measure(measure, one));
        if (place < 0 || place >= order.size()) {
            throw new NoSuchElementException();
        }
        return s.tickets.indexOf(order.get(place));
    }

    private static int measure(int measure, Ticket t) {
        int sum = 0;
        for (Half h : t.halves) {
            sum += measure == 0 ? h.wet : sum(holes(t.word, h.mood, h.wet));
        }
        return measure == 2 ? t.word.length() : sum;
    }

    public boolean isRight() {
        return true;
    }

    public int line(int ticket) {
        Ticket t = at(ticket);
        line = shown(t, false) + (t.joined ? "-" : "/") + shown(t, true) + ":" + t.from + ">" + t.to;
        return line.length();
    }

    private static String shown(Ticket t, boolean isReturn) {
        Half h = half(t, isReturn);
        return h.lost ? "_" : h.mood < 0 ? "." : seen(t.word, h);
    }

    public int holeLine(int ticket, boolean isReturn) {
        Ticket t = at(ticket);
        Half h = punched(t, isReturn);
        int[] holes = holes(t.word, h.mood, h.wet);
        StringBuilder text = new StringBuilder();
        for (int i = 0; i < holes.length; i++) {
            text.append(holes[i] < 0 ? "" + t.word.charAt(i) : "" + holes[i]);
        }
        line = text.toString();
        return line.length();
    }

    public char character(int index) {
        inside(index, line.length());
        return line.charAt(index);
    }

    public int refusal(boolean isDetail) {
        if (refusal == null) {
            throw new IllegalStateException();
        }
        return refusal[isDetail ? 1 : 0];
    }

    public int account(int what) {
        range(what, 0, 13);
        int[] sums = new int[8];
        for (Ticket t : s.tickets) {
            sums[4] += t.joined ? 0 : 1;
            for (Half h : t.halves) {
                sums[5] += h.lost ? 1 : 0;
                sums[6] += h.mood < 0 ? 0 : 1;
                sums[7] += sum(holes(t.word, h.mood, h.wet));
            }
        }
        int open = 0;
        for (boolean closed : s.closed) {
            open += closed ? 0 : 1;
        }
        int[] all = {s.tickets.size(), s.draft.length(), s.day, open, sums[4], sums[5], sums[6], sums[7], s.printed,
            s.out, s.back, s.punched, buffer.length(), past.size()};
        return all[what];
    }

    public double meanWet() {
        if (s.tickets.isEmpty()) {
            throw new ArithmeticException();
        }
        double sum = 0;
        for (Ticket t : s.tickets) {
            sum += measure(0, t);
        }
        return sum / (2.0 * s.tickets.size());
    }

    public float readShare() {
        float right = 0;
        float punched = 0;
        for (Ticket t : s.tickets) {
            for (Half h : t.halves) {
                punched += h.mood < 0 ? 0 : 1;
                right += h.mood >= 0 && seen(t.word, h).equals(t.word) ? 1 : 0;
            }
        }
        if (punched == 0) {
            throw new ArithmeticException();
        }
        return right / punched;
    }

    public int append(int packed) {
        StringBuilder text = new StringBuilder();
        for (byte one : java.nio.ByteBuffer.allocate(4).putInt(packed).array()) {
            if (one != 0) {
                range(one, 32, 126);
                text.append((char) one);
            }
        }
        if (buffer.length() + text.length() > 60) {
            throw new IllegalStateException();
        }
        buffer += text;
        return buffer.length();
    }

    public int read() {
        String text = buffer;
        buffer = "";
        if (!ORDERS.matcher(text).matches()) {
            errorPosition = text.length();
            for (int length = text.length(); length > 0; length--) {
                Matcher matcher = ORDERS.matcher(text.substring(0, length));
                if (!matcher.matches() && !matcher.hitEnd()) {
                    errorPosition = length - 1;
                }
            }
            throw new IllegalArgumentException();
        }
        State before = s.copy();
        List<State> pastBefore = new ArrayList<>(past);
        String[] orders = text.split(";");
        for (int i = 0; i < orders.length; i++) {
            try {
                obey(orders[i]);
            } catch (IndexOutOfBoundsException | IllegalArgumentException | UnsupportedOperationException e) {
                s = before;
                past.clear();
                past.addAll(pastBefore);
                refusedItem = i;
                throw new UnsupportedOperationException();
            }
        }
        past.clear();
        past.addAll(pastBefore);
        changed(before);
        return orders.length;
    }

    private void obey(String order) {
        int first = order.length() > 1 ? order.charAt(1) - '0' : 0;
        int last = order.charAt(order.length() - 1) - '0';
        boolean isReturn = order.length() > 2 && order.charAt(2) == 'r';
        switch (order.charAt(0)) {
            case 'n' -> {
                String[] parts = order.substring(1).split("[:>/]");
                print(parts[0], Integer.parseInt(parts[1]), Integer.parseInt(parts[2]), Integer.parseInt(parts[3]));
            }
            case 'p' -> punch(first, isReturn, last);
            case 'w' -> wet(first, isReturn, last);
            case 't' -> tear(first);
            case 'l' -> lose(first, isReturn);
            case 'f' -> find(first, isReturn);
            case 'g' -> ride(first, isReturn);
            case 'm' -> mood(first, last);
            case 'c' -> pier(first, false);
            case 'o' -> pier(first, true);
            case 'x' -> throwAway(first);
            default -> day();
        }
    }

    public int errorPosition() {
        if (errorPosition == null) {
            throw new NoSuchElementException();
        }
        return errorPosition;
    }

    public int refusedItem() {
        if (refusedItem == null) {
            throw new NoSuchElementException();
        }
        return refusedItem;
    }

    public int undo() {
        if (past.isEmpty()) {
            throw new IllegalStateException();
        }
        s = past.removeLast();
        return past.size();
    }

    public int snapshot() {
        saved = s.copy();
        return s.tickets.size();
    }

    public int restore() {
        if (saved == null) {
            throw new IllegalStateException();
        }
        s = saved.copy();
        past.clear();
        return s.tickets.size();
    }
}
