import java.util.NoSuchElementException;

/** An office of ferry tickets, as ../shared/DOC.md tells it. */
public final class FerryTickets {
    private static final String VOWELS = "aeiou";
    private static final int VOWEL_COUNT = 5;
    private static final int LEAST_LETTERS = 2;
    private static final int MOST_LETTERS = 6;
    private static final int MOST_TICKETS = 8;
    private static final int PUNCHERS = 3;
    private static final int MOODS = 5;
    private static final int PIERS = 5;
    private static final int MOST_CLAUSE = 9;
    private static final int MOST_WET = 9;
    private static final int WET_THAT_CLOSES = 3;
    private static final int WET_THAT_TEARS = 6;
    private static final int BUFFER_LENGTH = 60;
    private static final int LINE_LENGTH = 2 * MOST_LETTERS + 5;
    private static final int MOST_UNDONE = 8;
    private static final char UNREAD = '?';
    private static final int NONE = -1;

    // The outcomes of a change that is tried: a call throws for them, a text of orders is refused for them.
    private static final int FINE = 0;
    private static final int NO_SUCH = 1;
    private static final int BAD_NUMBER = 2;
    private static final int REFUSED = 3;

    // The reasons for which something is refused, by the numbers that the document gives them.
    private static final int FULL = 1;
    private static final int BAD_WORD = 2;
    private static final int SO_ALREADY = 3;
    private static final int LOST = 4;
    private static final int NOT_PUNCHED = 5;
    private static final int RIDDEN = 6;
    private static final int OUT_NOT_RIDDEN = 7;
    private static final int CLAUSE_OVER = 8;
    private static final int PIER_CLOSED = 9;
    private static final int MISREAD = 10;
    private static final int DRAFT_EMPTY = 11;

    // The signs of an order's shape that stand for more than themselves.
    private static final char ANY_DIGIT = '#';
    private static final char ANY_HALF = 'h';
    private static final char ANY_WORD = '@';
    private static final char NOTHING = '!';
    private static final String NO_ORDER = "!";
    private static final int PRINT_TAIL = 6;

    private Office now = new Office();
    private Office spare = new Office();
    private final Office saved = new Office();
    private boolean hasSnapshot = false;
    private final Office[] past = new Office[MOST_UNDONE];
    private int undoable = 0;
    private final Word told = new Word();
    private final char[] buffer = new char[BUFFER_LENGTH];
    private int buffered = 0;
    private final char[] written = new char[LINE_LENGTH];
    private int writtenLength = 0;
    private int refusalReason = 0;
    private int refusalDetail = 0;
    private int faultPosition = NONE;
    private int refusedOrder = NONE;

    public FerryTickets() {
        for (int i = 0; i < MOST_UNDONE; i++) {
            past[i] = new Office();
        }
    }

    // ---- words and tickets

    public int clear() {
        int before = now.count;
        now.empty();
        undoable = 0;
        return before;
    }

    public int letter(char letter) throws IllegalArgumentException, UnsupportedOperationException {
        begin();
        settle(tryLetter(letter));
        return now.draft.length;
    }

    public int unletter() throws UnsupportedOperationException {
        begin();
        settle(tryUnletter());
        return now.draft.length;
    }

    public int print(int from, int to, int clause)
            throws IndexOutOfBoundsException, IllegalArgumentException, UnsupportedOperationException {
        begin();
        settle(tryPrint(now.draft, from, to, clause));
        now.draft.length = 0;
        return now.count - 1;
    }

    public int throwAway(int ticket) throws IndexOutOfBoundsException {
        begin();
        settle(tryThrowAway(ticket));
        return now.count;
    }

    public int mood(int puncher, int mood)
            throws IndexOutOfBoundsException, IllegalArgumentException, UnsupportedOperationException {
        int before = now.moodOf(puncher);
        begin();
        settle(tryMood(puncher, mood));
        return before;
    }

    public int pier(int pier, boolean isOpen) throws IndexOutOfBoundsException, UnsupportedOperationException {
        begin();
        settle(tryPier(pier, isOpen));
        return now.openPiers();
    }

    public int ticketOf(int ticket, int what) throws IndexOutOfBoundsException, IllegalArgumentException {
        Ticket asked = existing(ticket);
        switch (what) {
            case 0: return asked.word.length;
            case 1: return asked.word.vowelCount();
            case 2: return asked.from;
            case 3: return asked.to;
            case 4: return asked.clause;
            case 5: return asked.isTorn ? 1 : 0;
            case 6: return asked.outDay;
            default: throw new IllegalArgumentException("there is no such number of a ticket");
        }
    }

    public char wordAt(int ticket, int place) throws IndexOutOfBoundsException, NoSuchElementException {
        Ticket asked = existing(ticket);
        if (!asked.word.hasPlace(place)) {
            throw new NoSuchElementException("there is no such place in the word");
        }
        return asked.word.letterAt(place);
    }

    // ---- halves

    public int punch(int ticket, boolean isReturn, int puncher)
            throws IndexOutOfBoundsException, UnsupportedOperationException {
        begin();
        settle(tryPunch(ticket, isReturn, puncher));
        Ticket punched = existing(ticket);
        return punched.half(isReturn).holesWhenWet(punched.word, 0);
    }

    public int wet(int ticket, boolean isReturn, int by) throws IndexOutOfBoundsException, IllegalArgumentException {
        begin();
        settle(tryWet(ticket, isReturn, by));
        return existing(ticket).half(isReturn).wetness;
    }

    public int tear(int ticket) throws IndexOutOfBoundsException, UnsupportedOperationException {
        begin();
        settle(tryTear(ticket));
        return now.tornTickets();
    }

    public int lose(int ticket, boolean isReturn) throws IndexOutOfBoundsException, UnsupportedOperationException {
        begin();
        settle(tryLost(ticket, isReturn, true));
        return now.lostHalves();
    }

    public int find(int ticket, boolean isReturn) throws IndexOutOfBoundsException, UnsupportedOperationException {
        begin();
        settle(tryLost(ticket, isReturn, false));
        return now.lostHalves();
    }

    public int halfOf(int ticket, boolean isReturn, int what)
            throws IndexOutOfBoundsException, IllegalArgumentException {
        Ticket asked = existing(ticket);
        Half half = asked.half(isReturn);
        switch (what) {
            case 0: return half.isPunched ? 1 : 0;
            case 1: return half.keptMood;
            case 2: return half.wetness;
            case 3: return half.holesWhenWet(asked.word, 0);
            case 4: return half.holesWhenWet(asked.word, half.wetness);
            case 5: return half.isLost ? 1 : 0;
            case 6: return half.isRidden ? 1 : 0;
            case 7: return half.isPunched ? half.rightLetters(asked.word, half.keptMood, half.wetness) : 0;
            default: throw new IllegalArgumentException("there is no such number of a half");
        }
    }

    public char readAt(int ticket, boolean isReturn, int place)
            throws IndexOutOfBoundsException, NoSuchElementException {
        Ticket asked = existing(ticket);
        Half half = punchedHalf(asked, isReturn);
        if (!asked.word.hasPlace(place)) {
            throw new NoSuchElementException("there is no such place in the word");
        }
        return half.seen(asked.word.letterAt(place));
    }

    public boolean doAgree(int ticket, boolean isAgain) throws IndexOutOfBoundsException {
        Ticket asked = existing(ticket);
        return isAgain ? asked.isSameByHoles() : asked.isSameByReading();
    }

    public int moodFor(int ticket, boolean isReturn) throws IndexOutOfBoundsException, NoSuchElementException {
        Ticket asked = existing(ticket);
        Half half = punchedHalf(asked, isReturn);
        for (int mood = 0; mood < MOODS; mood++) {
            if (half.rightLetters(asked.word, mood, half.wetness) == asked.word.length) {
                return mood;
            }
        }
        throw new NoSuchElementException("with no mood would the half be read as its word");
    }

    public int would(int ticket, boolean isReturn, int by)
            throws IndexOutOfBoundsException, IllegalArgumentException, NoSuchElementException {
        Ticket asked = existing(ticket);
        if (by < 0 || by > MOST_WET) {
            throw new IllegalArgumentException("the water is out of range");
        }
        Half half = punchedHalf(asked, isReturn);
        return half.rightLetters(asked.word, half.keptMood, half.wetterBy(by));
    }

    public int likely(int ticket, boolean isReturn) throws IndexOutOfBoundsException, NoSuchElementException {
        Ticket asked = existing(ticket);
        Half half = punchedHalf(asked, isReturn);
        int nearest = 0;
        int least = MOST_LETTERS + 1;
        for (int i = 0; i < now.count; i++) {
            int distance = half.unlikeLetters(asked.word, now.tickets[i].word);
            if (distance < least) {
                least = distance;
                nearest = i;
            }
        }
        return nearest;
    }

    // ---- rides and days

    public int ride(int ticket, boolean isReturn) throws IndexOutOfBoundsException, UnsupportedOperationException {
        begin();
        settle(tryRide(ticket, isReturn));
        return now.outRides + now.returnRides;
    }

    public int hinders(int ticket, boolean isReturn) throws IndexOutOfBoundsException {
        return now.hindrance(existing(ticket), isReturn);
    }

    public int day() {
        begin();
        settle(letDayGoBy());
        return now.today;
    }

    public int daysLeft(int ticket) throws IndexOutOfBoundsException, NoSuchElementException {
        Ticket asked = existing(ticket);
        if (!asked.outHalf.isRidden) {
            throw new NoSuchElementException("the out half was not ridden");
        }
        return Math.max(-1, asked.clause - (now.today - asked.outDay));
    }

    public int words() {
        int unlike = 0;
        for (int i = 0; i < now.count; i++) {
            if (now.firstWith(now.tickets[i].word) == i) {
                unlike++;
            }
        }
        return unlike;
    }

    public int sharing(int ticket) throws IndexOutOfBoundsException {
        Ticket asked = existing(ticket);
        int same = 0;
        for (int i = 0; i < now.count; i++) {
            if (now.tickets[i].word.isSame(asked.word)) {
                same++;
            }
        }
        return same;
    }

    public int often(char letter) throws IllegalArgumentException {
        if (!isLetter(letter)) {
            throw new IllegalArgumentException("this is no letter of a word");
        }
        int count = 0;
        for (int i = 0; i < now.count; i++) {
            count += now.tickets[i].word.countOf(letter);
        }
        return count;
    }

    public int ranked(int measure, int place) throws IllegalArgumentException, NoSuchElementException {
        if (measure < 0 || measure > 2) {
            throw new IllegalArgumentException("there is no such measure");
        }
        for (int i = 0; i < now.count; i++) {
            if (now.ticketsAhead(measure, i) == place) {
                return i;
            }
        }
        throw new NoSuchElementException("there is no such place");
    }

    public boolean isRight() {
        for (int i = 0; i < now.count; i++) {
            Ticket ticket = now.tickets[i];
            if (ticket.isSameByReading() != ticket.isSameByHoles()) {
                return false;
            }
            if (!ticket.outHalf.isRightWhileDry(ticket.word) || !ticket.returnHalf.isRightWhileDry(ticket.word)) {
                return false;
            }
            if (!ticket.isTorn && ticket.outHalf.isLost != ticket.returnHalf.isLost) {
                return false;
            }
        }
        return true;
    }

    // ---- lines and accounts

    public int line(int ticket) throws IndexOutOfBoundsException {
        Ticket asked = existing(ticket);
        writtenLength = 0;
        writeHalf(asked, false);
        write(asked.isTorn ? '/' : '-');
        writeHalf(asked, true);
        write(':');
        write(digit(asked.from));
        write('>');
        write(digit(asked.to));
        return writtenLength;
    }

    public int holeLine(int ticket, boolean isReturn) throws IndexOutOfBoundsException, NoSuchElementException {
        Ticket asked = existing(ticket);
        Half half = punchedHalf(asked, isReturn);
        writtenLength = 0;
        for (int place = 0; place < asked.word.length; place++) {
            char letter = asked.word.letterAt(place);
            int vowel = vowelNumber(letter);
            write(vowel == NONE ? letter : digit(half.holesFor(vowel, half.wetness)));
        }
        return writtenLength;
    }

    public char character(int index) throws IndexOutOfBoundsException {
        if (index < 0 || index >= writtenLength) {
            throw new IndexOutOfBoundsException("there is no such index in the line");
        }
        return written[index];
    }

    public int refusal(boolean isDetail) throws IllegalStateException {
        if (refusalReason == 0) {
            throw new IllegalStateException("nothing was refused");
        }
        return isDetail ? refusalDetail : refusalReason;
    }

    public int account(int what) throws IllegalArgumentException {
        switch (what) {
            case 0: return now.count;
            case 1: return now.draft.length;
            case 2: return now.today;
            case 3: return now.openPiers();
            case 4: return now.tornTickets();
            case 5: return now.lostHalves();
            case 6: return now.punchedHalves();
            case 7: return now.holesLeft();
            case 8: return now.printed;
            case 9: return now.outRides;
            case 10: return now.returnRides;
            case 11: return now.holesPunched;
            case 12: return buffered;
            case 13: return undoable;
            default: throw new IllegalArgumentException("there is no such account");
        }
    }

    public double meanWet() throws ArithmeticException {
        int halves = 2 * now.count;
        if (halves == 0) {
            throw new ArithmeticException("there are no tickets");
        }
        int sum = 0;
        for (int i = 0; i < now.count; i++) {
            sum += now.tickets[i].wetness();
        }
        return (double) sum / (double) halves;
    }

    public float readShare() throws ArithmeticException {
        int punched = now.punchedHalves();
        if (punched == 0) {
            throw new ArithmeticException("no half is punched");
        }
        return (float) now.rightHalves() / (float) punched;
    }

    // ---- input

    public int append(int packed) throws IllegalArgumentException, IllegalStateException {
        int count = 0;
        for (int shift = 24; shift >= 0; shift -= 8) {
            int code = (packed >>> shift) & 255;
            if (code != 0 && (code < 32 || code > 126)) {
                throw new IllegalArgumentException("a character is not from 32 to 126");
            }
            count += code == 0 ? 0 : 1;
        }
        if (buffered + count > BUFFER_LENGTH) {
            throw new IllegalStateException("the buffer would hold more than 60 characters");
        }
        for (int shift = 24; shift >= 0; shift -= 8) {
            int code = (packed >>> shift) & 255;
            if (code != 0 && buffered < BUFFER_LENGTH) {
                buffer[buffered] = (char) code;
                buffered++;
            }
        }
        return buffered;
    }

    public int read() throws IllegalArgumentException, UnsupportedOperationException {
        int fault = faultOfInput();
        if (fault != NONE) {
            buffered = 0;
            faultPosition = fault;
            throw new IllegalArgumentException("the input is malformed");
        }
        begin();
        int orders = carryOutAll();
        buffered = 0;
        if (orders < 0) {
            now.take(spare);
            refusedOrder = ~orders;
            throw new UnsupportedOperationException("an order is refused");
        }
        remember();
        return orders;
    }

    public int errorPosition() throws NoSuchElementException {
        if (faultPosition == NONE) {
            throw new NoSuchElementException("no input was malformed");
        }
        return faultPosition;
    }

    public int refusedItem() throws NoSuchElementException {
        if (refusedOrder == NONE) {
            throw new NoSuchElementException("no input was refused");
        }
        return refusedOrder;
    }

    // ---- undo and snapshot

    public int undo() throws IllegalStateException {
        if (undoable <= 0) {
            throw new IllegalStateException("there is no change to undo");
        }
        undoable--;
        now.take(past[undoable]);
        return undoable;
    }

    public int snapshot() {
        saved.take(now);
        hasSnapshot = true;
        return now.count;
    }

    public int restore() throws IllegalStateException {
        if (!hasSnapshot) {
            throw new IllegalStateException("there is no snapshot");
        }
        now.take(saved);
        undoable = 0;
        return now.count;
    }

    // ---- changes that are tried

    private void begin() {
        spare.take(now);
    }

    private void settle(int outcome) {
        if (outcome == NO_SUCH) {
            throw new IndexOutOfBoundsException("there is no such ticket, puncher or pier");
        }
        if (outcome == BAD_NUMBER) {
            throw new IllegalArgumentException("an argument is out of range");
        }
        if (outcome == REFUSED) {
            throw new UnsupportedOperationException("it is refused");
        }
        remember();
    }

    // The offices change places, so that what is remembered is never made anew.
    private void remember() {
        if (undoable >= MOST_UNDONE) {
            Office oldest = past[0];
            for (int i = 1; i < MOST_UNDONE; i++) {
                past[i - 1] = past[i];
            }
            past[MOST_UNDONE - 1] = oldest;
            undoable--;
        }
        Office free = past[undoable];
        past[undoable] = spare;
        spare = free;
        undoable++;
    }

    private int refuse(int reason, int detail) {
        refusalReason = reason;
        refusalDetail = detail;
        return REFUSED;
    }

    private int tryLetter(char letter) {
        if (!isLetter(letter)) {
            return BAD_NUMBER;
        }
        if (now.draft.length >= MOST_LETTERS) {
            return refuse(FULL, MOST_LETTERS);
        }
        now.draft.add(letter);
        return FINE;
    }

    private int tryUnletter() {
        if (now.draft.length <= 0) {
            return refuse(DRAFT_EMPTY, now.count);
        }
        now.draft.length--;
        return FINE;
    }

    private int tryPrint(Word word, int from, int to, int clause) {
        if (!isPier(from) || !isPier(to)) {
            return NO_SUCH;
        }
        if (from == to || clause < 1 || clause > MOST_CLAUSE) {
            return BAD_NUMBER;
        }
        if (word.length < LEAST_LETTERS || word.vowelCount() == 0) {
            return refuse(BAD_WORD, word.length);
        }
        if (now.count >= MOST_TICKETS) {
            return refuse(FULL, MOST_TICKETS);
        }
        now.tickets[now.count].start(word, from, to, clause);
        now.count++;
        now.printed++;
        return FINE;
    }

    private int tryThrowAway(int ticket) {
        if (!now.hasTicket(ticket)) {
            return NO_SUCH;
        }
        now.removeTicket(ticket);
        return FINE;
    }

    private int tryMood(int puncher, int mood) {
        if (!isPuncher(puncher)) {
            return NO_SUCH;
        }
        if (mood < 0 || mood >= MOODS) {
            return BAD_NUMBER;
        }
        if (now.moods[puncher] == mood) {
            return refuse(SO_ALREADY, mood);
        }
        now.moods[puncher] = mood;
        return FINE;
    }

    private int tryPier(int pier, boolean isOpen) {
        if (!isPier(pier)) {
            return NO_SUCH;
        }
        if (now.openness[pier] == isOpen) {
            return refuse(SO_ALREADY, isOpen ? 1 : 0);
        }
        now.openness[pier] = isOpen;
        return FINE;
    }

    private int tryPunch(int ticket, boolean isReturn, int puncher) {
        if (!now.hasTicket(ticket) || !isPuncher(puncher)) {
            return NO_SUCH;
        }
        Ticket asked = now.tickets[ticket];
        Half half = asked.half(isReturn);
        if (half.isPunched) {
            return refuse(SO_ALREADY, 1);
        }
        half.isPunched = true;
        half.keptMood = now.moods[puncher];
        now.holesPunched += half.holesWhenWet(asked.word, 0);
        return FINE;
    }

    private int tryWet(int ticket, boolean isReturn, int by) {
        if (!now.hasTicket(ticket)) {
            return NO_SUCH;
        }
        if (by < 1 || by > MOST_WET) {
            return BAD_NUMBER;
        }
        now.tickets[ticket].getWet(isReturn, by);
        return FINE;
    }

    private int tryTear(int ticket) {
        if (!now.hasTicket(ticket)) {
            return NO_SUCH;
        }
        if (now.tickets[ticket].isTorn) {
            return refuse(SO_ALREADY, 1);
        }
        now.tickets[ticket].isTorn = true;
        return FINE;
    }

    private int tryLost(int ticket, boolean isReturn, boolean isLost) {
        if (!now.hasTicket(ticket)) {
            return NO_SUCH;
        }
        Ticket asked = now.tickets[ticket];
        if (asked.half(isReturn).isLost == isLost) {
            return refuse(SO_ALREADY, 1);
        }
        asked.half(isReturn).isLost = isLost;
        if (!asked.isTorn) {
            asked.half(!isReturn).isLost = isLost;
        }
        return FINE;
    }

    private int tryRide(int ticket, boolean isReturn) {
        if (!now.hasTicket(ticket)) {
            return NO_SUCH;
        }
        Ticket asked = now.tickets[ticket];
        int reason = now.hindrance(asked, isReturn);
        if (reason != 0) {
            return refuse(reason, now.hindranceDetail(asked, isReturn, reason));
        }
        asked.half(isReturn).isRidden = true;
        if (isReturn) {
            now.returnRides++;
        } else {
            now.outRides++;
            asked.outDay = now.today;
        }
        return FINE;
    }

    private int letDayGoBy() {
        now.today++;
        return FINE;
    }

    // ---- what the calls ask for

    private Ticket existing(int ticket) {
        if (!now.hasTicket(ticket)) {
            throw new IndexOutOfBoundsException("there is no such ticket");
        }
        return now.tickets[ticket];
    }

    private static Half punchedHalf(Ticket ticket, boolean isReturn) {
        Half half = ticket.half(isReturn);
        if (!half.isPunched) {
            throw new NoSuchElementException("the half is not punched");
        }
        return half;
    }

    private static boolean isPier(int pier) {
        return pier >= 0 && pier < PIERS;
    }

    private static boolean isPuncher(int puncher) {
        return puncher >= 0 && puncher < PUNCHERS;
    }

    private static boolean isLetter(char letter) {
        switch (letter) {
            case 'b': case 'd': case 'k': case 'l': case 'm': case 'n': case 'r': case 's': case 't': return true;
            default: return vowelNumber(letter) != NONE;
        }
    }

    private static int vowelNumber(char letter) {
        switch (letter) {
            case 'a': return 0;
            case 'e': return 1;
            case 'i': return 2;
            case 'o': return 3;
            case 'u': return 4;
            default: return NONE;
        }
    }

    // ---- the line

    private void writeHalf(Ticket ticket, boolean isReturn) {
        Half half = ticket.half(isReturn);
        // A half that is lost shows nothing, so that nobody sees whether it is punched.
        if (half.isLost) {
            write('_');
        } else if (!half.isPunched) {
            write('.');
        } else {
            for (int place = 0; place < ticket.word.length; place++) {
                write(half.seen(ticket.word.letterAt(place)));
            }
        }
    }

    private void write(char sign) {
        if (writtenLength < LINE_LENGTH) {
            written[writtenLength] = sign;
            writtenLength++;
        }
    }

    private static char digit(int number) {
        return (char) ('0' + number);
    }

    // ---- texts of orders

    private int faultOfInput() {
        int start = 0;
        for (int order = 0; order < BUFFER_LENGTH; order++) {
            int end = endOfOrder(start);
            if (end < 0) {
                return ~end;
            }
            if (end >= buffered) {
                return NONE;
            }
            if (signAt(end) != ';') {
                return end;
            }
            start = end + 1;
        }
        return buffered;
    }

    // The number of orders, or ~n if the order n is refused.
    private int carryOutAll() {
        int start = 0;
        for (int order = 0; order < BUFFER_LENGTH; order++) {
            int end = endOfOrder(start);
            if (end < 0 || carryOut(start, end) != FINE) {
                return ~order;
            }
            if (end >= buffered) {
                return order + 1;
            }
            start = end + 1;
        }
        return BUFFER_LENGTH;
    }

    // The index behind the order, or ~i if its fault is at i.
    private int endOfOrder(int start) {
        String shape = shapeOf(signAt(start));
        int at = start;
        for (int i = 0; i < shape.length(); i++) {
            int fitting = fittingCharacters(shape.charAt(i), at);
            if (fitting == 0) {
                return ~at;
            }
            at += fitting;
        }
        return at;
    }

    private static String shapeOf(char order) {
        switch (order) {
            case 'n': return "n@:#>#/#";
            case 'p': return "p#h=#";
            case 'w': return "w#h+#";
            case 't': return "t#";
            case 'l': return "l#h";
            case 'f': return "f#h";
            case 'g': return "g#h";
            case 'm': return "m#=#";
            case 'c': return "c#";
            case 'o': return "o#";
            case 'x': return "x#";
            case 'd': return "d";
            default: return NO_ORDER;
        }
    }

    private int fittingCharacters(char sign, int at) {
        char found = signAt(at);
        switch (sign) {
            case ANY_DIGIT: return found >= '0' && found <= '9' ? 1 : 0;
            case ANY_HALF: return found == 'o' || found == 'r' ? 1 : 0;
            case ANY_WORD: return lettersFrom(at);
            case NOTHING: return 0;
            default: return found == sign ? 1 : 0;
        }
    }

    private int lettersFrom(int start) {
        int count = 0;
        while (count < MOST_LETTERS && isLetter(signAt(start + count))) {
            count++;
        }
        return count;
    }

    private int carryOut(int start, int end) {
        int first = digitAt(start + 1);
        boolean isReturn = start + 2 < end && signAt(start + 2) == 'r';
        int last = digitAt(end - 1);
        switch (signAt(start)) {
            case 'n': return carryOutPrint(start, end);
            case 'p': return tryPunch(first, isReturn, last);
            case 'w': return tryWet(first, isReturn, last);
            case 't': return tryTear(first);
            case 'l': return tryLost(first, isReturn, true);
            case 'f': return tryLost(first, isReturn, false);
            case 'g': return tryRide(first, isReturn);
            case 'm': return tryMood(first, last);
            case 'c': return tryPier(first, false);
            case 'o': return tryPier(first, true);
            case 'x': return tryThrowAway(first);
            default: return letDayGoBy();
        }
    }

    private int carryOutPrint(int start, int end) {
        told.length = 0;
        for (int i = start + 1; i < end - PRINT_TAIL; i++) {
            told.add(signAt(i));
        }
        return tryPrint(told, digitAt(end - 5), digitAt(end - 3), digitAt(end - 1));
    }

    private int digitAt(int index) {
        char sign = signAt(index);
        return sign == NOTHING ? NONE : sign - '0';
    }

    // No order has the sign for nothing, so that it fits nowhere.
    private char signAt(int index) {
        return index >= 0 && index < buffered ? buffer[index] : NOTHING;
    }

    private static final class Word {
        private final char[] letters = new char[MOST_LETTERS];
        private int length = 0;

        private void take(Word other) {
            for (int place = 0; place < MOST_LETTERS; place++) {
                letters[place] = other.letters[place];
            }
            length = other.length;
        }

        private void add(char letter) {
            if (length < MOST_LETTERS) {
                letters[length] = letter;
                length++;
            }
        }

        private boolean hasPlace(int place) {
            return place >= 0 && place < length;
        }

        private char letterAt(int place) {
            return hasPlace(place) ? letters[place] : UNREAD;
        }

        private int vowelCount() {
            int count = 0;
            for (int place = 0; place < length; place++) {
                if (vowelNumber(letterAt(place)) != NONE) {
                    count++;
                }
            }
            return count;
        }

        private int countOf(char letter) {
            int count = 0;
            for (int place = 0; place < length; place++) {
                if (letterAt(place) == letter) {
                    count++;
                }
            }
            return count;
        }

        private boolean isSame(Word other) {
            if (length != other.length) {
                return false;
            }
            for (int place = 0; place < length; place++) {
                if (letterAt(place) != other.letterAt(place)) {
                    return false;
                }
            }
            return true;
        }
    }

    private static final class Half {
        private boolean isPunched = false;
        private int keptMood = NONE;
        private int wetness = 0;
        private boolean isLost = false;
        private boolean isRidden = false;

        private void start() {
            isPunched = false;
            keptMood = NONE;
            wetness = 0;
            isLost = false;
            isRidden = false;
        }

        private void take(Half other) {
            isPunched = other.isPunched;
            keptMood = other.keptMood;
            wetness = other.wetness;
            isLost = other.isLost;
            isRidden = other.isRidden;
        }

        private int wetterBy(int by) {
            return Math.min(MOST_WET, wetness + by);
        }

        private int holesFor(int vowel, int water) {
            if (!isPunched || vowel == NONE) {
                return 0;
            }
            int punched = 1 + (vowel + keptMood) % VOWEL_COUNT;
            int closed = water / WET_THAT_CLOSES;
            return closed < punched ? punched - closed : 0;
        }

        private int holesWhenWet(Word word, int water) {
            int sum = 0;
            for (int place = 0; place < word.length; place++) {
                sum += holesFor(vowelNumber(word.letterAt(place)), water);
            }
            return sum;
        }

        private char seenAs(char letter, int mood, int water) {
            int vowel = vowelNumber(letter);
            if (vowel == NONE) {
                return letter;
            }
            int holes = holesFor(vowel, water);
            return holes == 0 ? UNREAD : VOWELS.charAt(Math.floorMod(holes - 1 - mood, VOWEL_COUNT));
        }

        private char seen(char letter) {
            return seenAs(letter, keptMood, wetness);
        }

        private int rightLetters(Word word, int mood, int water) {
            int count = 0;
            for (int place = 0; place < word.length; place++) {
                char letter = word.letterAt(place);
                if (seenAs(letter, mood, water) == letter) {
                    count++;
                }
            }
            return count;
        }

        private int firstWrongPlace(Word word) {
            for (int place = 0; place < word.length; place++) {
                char letter = word.letterAt(place);
                if (seenAs(letter, keptMood, wetness) != letter) {
                    return place;
                }
            }
            return NONE;
        }

        private int unlikeLetters(Word word, Word other) {
            int shared = Math.min(word.length, other.length);
            int count = Math.max(word.length, other.length) - shared;
            for (int place = 0; place < shared; place++) {
                if (seen(word.letterAt(place)) != other.letterAt(place)) {
                    count++;
                }
            }
            return count;
        }

        private boolean isReadRightly(Word word) {
            return isPunched && firstWrongPlace(word) == NONE;
        }

        private boolean isRightWhileDry(Word word) {
            return !isPunched || wetness >= WET_THAT_CLOSES || isReadRightly(word);
        }
    }

    private static final class Ticket {
        private final Word word = new Word();
        private int from = 0;
        private int to = 0;
        private int clause = 0;
        private boolean isTorn = false;
        private int outDay = NONE;
        private final Half outHalf = new Half();
        private final Half returnHalf = new Half();

        private void start(Word printedWord, int fromPier, int toPier, int days) {
            word.take(printedWord);
            from = fromPier;
            to = toPier;
            clause = days;
            isTorn = false;
            outDay = NONE;
            outHalf.start();
            returnHalf.start();
        }

        private void take(Ticket other) {
            word.take(other.word);
            from = other.from;
            to = other.to;
            clause = other.clause;
            isTorn = other.isTorn;
            outDay = other.outDay;
            outHalf.take(other.outHalf);
            returnHalf.take(other.returnHalf);
        }

        private Half half(boolean isReturn) {
            return isReturn ? returnHalf : outHalf;
        }

        private void getWet(boolean isReturn, int by) {
            Half one = half(isReturn);
            Half other = half(!isReturn);
            one.wetness = one.wetterBy(by);
            if (!isTorn) {
                other.wetness = other.wetterBy(by / 2);
            }
            isTorn = isTorn || one.wetness >= WET_THAT_TEARS || other.wetness >= WET_THAT_TEARS;
        }

        private int wetness() {
            return outHalf.wetness + returnHalf.wetness;
        }

        private int holesLeft() {
            return outHalf.holesWhenWet(word, outHalf.wetness) + returnHalf.holesWhenWet(word, returnHalf.wetness);
        }

        private int measured(int measure) {
            switch (measure) {
                case 0: return wetness();
                case 1: return holesLeft();
                default: return word.length;
            }
        }

        private boolean isSameByReading() {
            if (!outHalf.isPunched || !returnHalf.isPunched) {
                return false;
            }
            for (int place = 0; place < word.length; place++) {
                char letter = word.letterAt(place);
                if (outHalf.seen(letter) != returnHalf.seen(letter)) {
                    return false;
                }
            }
            return true;
        }

        // Holes less moods tell the vowels without any vowel being read.
        private boolean isSameByHoles() {
            if (!outHalf.isPunched || !returnHalf.isPunched) {
                return false;
            }
            int moodsApart = outHalf.keptMood - returnHalf.keptMood;
            for (int place = 0; place < word.length; place++) {
                int vowel = vowelNumber(word.letterAt(place));
                int outHoles = outHalf.holesFor(vowel, outHalf.wetness);
                int returnHoles = returnHalf.holesFor(vowel, returnHalf.wetness);
                if ((outHoles == 0) != (returnHoles == 0)) {
                    return false;
                }
                if (outHoles != 0 && Math.floorMod(outHoles - returnHoles - moodsApart, VOWEL_COUNT) != 0) {
                    return false;
                }
            }
            return true;
        }
    }

    /** All that changes can change. */
    private static final class Office {
        private final Ticket[] tickets = new Ticket[MOST_TICKETS];
        private int count = 0;
        private final Word draft = new Word();
        private final int[] moods = new int[PUNCHERS];
        private final boolean[] openness = new boolean[PIERS];
        private int today = 0;
        private int printed = 0;
        private int outRides = 0;
        private int returnRides = 0;
        private int holesPunched = 0;

        private Office() {
            for (int i = 0; i < MOST_TICKETS; i++) {
                tickets[i] = new Ticket();
            }
            for (int i = 0; i < PIERS; i++) {
                openness[i] = true;
            }
        }

        private void empty() {
            count = 0;
            draft.length = 0;
            for (int i = 0; i < PUNCHERS; i++) {
                moods[i] = 0;
            }
            for (int i = 0; i < PIERS; i++) {
                openness[i] = true;
            }
            today = 0;
            printed = 0;
            outRides = 0;
            returnRides = 0;
            holesPunched = 0;
        }

        private void take(Office other) {
            for (int i = 0; i < other.count; i++) {
                tickets[i].take(other.tickets[i]);
            }
            count = other.count;
            draft.take(other.draft);
            for (int i = 0; i < PUNCHERS; i++) {
                moods[i] = other.moods[i];
            }
            for (int i = 0; i < PIERS; i++) {
                openness[i] = other.openness[i];
            }
            today = other.today;
            printed = other.printed;
            outRides = other.outRides;
            returnRides = other.returnRides;
            holesPunched = other.holesPunched;
        }

        private boolean hasTicket(int ticket) {
            return ticket >= 0 && ticket < count;
        }

        private void removeTicket(int ticket) {
            Ticket removed = tickets[ticket];
            for (int i = ticket + 1; i < count; i++) {
                tickets[i - 1] = tickets[i];
            }
            count--;
            tickets[count] = removed;
        }

        private int moodOf(int puncher) {
            return isPuncher(puncher) ? moods[puncher] : NONE;
        }

        private boolean isClosed(int pier) {
            return isPier(pier) && !openness[pier];
        }

        private int openPiers() {
            int open = 0;
            for (int i = 0; i < PIERS; i++) {
                if (openness[i]) {
                    open++;
                }
            }
            return open;
        }

        private int tornTickets() {
            int torn = 0;
            for (int i = 0; i < count; i++) {
                if (tickets[i].isTorn) {
                    torn++;
                }
            }
            return torn;
        }

        private int lostHalves() {
            int lost = 0;
            for (int i = 0; i < count; i++) {
                lost += tickets[i].outHalf.isLost ? 1 : 0;
                lost += tickets[i].returnHalf.isLost ? 1 : 0;
            }
            return lost;
        }

        private int punchedHalves() {
            int punched = 0;
            for (int i = 0; i < count; i++) {
                punched += tickets[i].outHalf.isPunched ? 1 : 0;
                punched += tickets[i].returnHalf.isPunched ? 1 : 0;
            }
            return punched;
        }

        private int rightHalves() {
            int right = 0;
            for (int i = 0; i < count; i++) {
                right += tickets[i].outHalf.isReadRightly(tickets[i].word) ? 1 : 0;
                right += tickets[i].returnHalf.isReadRightly(tickets[i].word) ? 1 : 0;
            }
            return right;
        }

        private int holesLeft() {
            int holes = 0;
            for (int i = 0; i < count; i++) {
                holes += tickets[i].holesLeft();
            }
            return holes;
        }

        private int firstWith(Word word) {
            for (int i = 0; i < count; i++) {
                if (tickets[i].word.isSame(word)) {
                    return i;
                }
            }
            return NONE;
        }

        private int ticketsAhead(int measure, int ticket) {
            int own = tickets[ticket].measured(measure);
            int ahead = 0;
            for (int i = 0; i < count; i++) {
                int other = tickets[i].measured(measure);
                if (other > own || (other == own && i < ticket)) {
                    ahead++;
                }
            }
            return ahead;
        }

        // The reason for which a half could not be ridden now, 0 if it could.
        private int hindrance(Ticket ticket, boolean isReturn) {
            Half half = ticket.half(isReturn);
            if (half.isLost) {
                return LOST;
            }
            if (!half.isPunched) {
                return NOT_PUNCHED;
            }
            if (half.isRidden) {
                return RIDDEN;
            }
            if (isReturn && !ticket.outHalf.isRidden) {
                return OUT_NOT_RIDDEN;
            }
            if (isReturn && today - ticket.outDay > ticket.clause) {
                return CLAUSE_OVER;
            }
            if (isClosed(ticket.from) || isClosed(ticket.to)) {
                return PIER_CLOSED;
            }
            return half.firstWrongPlace(ticket.word) == NONE ? 0 : MISREAD;
        }

        private int hindranceDetail(Ticket ticket, boolean isReturn, int reason) {
            int lower = Math.min(ticket.from, ticket.to);
            int higher = Math.max(ticket.from, ticket.to);
            switch (reason) {
                case OUT_NOT_RIDDEN: return today;
                case CLAUSE_OVER: return today - ticket.outDay;
                case PIER_CLOSED: return isClosed(lower) ? lower : higher;
                case MISREAD: return ticket.half(isReturn).firstWrongPlace(ticket.word);
                default: return isReturn ? 1 : 0;
            }
        }
    }
}
