/** Counts the answers that are not the due ones, and ends a test with 1 if there was one. */
final class Expect {
    interface Call {
        Object answer();
    }

    private static int wrong = 0;
    private static int asked = 0;
    private static String test = "";

    private Expect() {
    }

    /** What is asked from now on is asked for this test. */
    static void begin(String name) {
        test = name + " ";
    }

    static int asked() {
        return asked;
    }

    static void same(String what, Object due, Object got) {
        asked++;
        if (!due.equals(got)) {
            wrong++;
            System.out.println(test + what + ": answered " + got + ", due is " + due);
        }
    }

    /** What a call answers, or the name of what it throws, which must be the very class. */
    static Object outcome(Call call) {
        try {
            return call.answer();
        } catch (RuntimeException e) {
            return e.getClass().getSimpleName();
        }
    }

    static void index(String what, Call call) {
        same(what, "IndexOutOfBoundsException", outcome(call));
    }

    static void argument(String what, Call call) {
        same(what, "IllegalArgumentException", outcome(call));
    }

    static void state(String what, Call call) {
        same(what, "IllegalStateException", outcome(call));
    }

    static void element(String what, Call call) {
        same(what, "NoSuchElementException", outcome(call));
    }

    static void arithmetic(String what, Call call) {
        same(what, "ArithmeticException", outcome(call));
    }

    static void refused(String what, FerryTickets office, int reason, int detail, Call call) {
        same(what, "UnsupportedOperationException", outcome(call));
        same(what + ", reason", reason, office.refusal(false));
        same(what + ", detail", detail, office.refusal(true));
    }

    /** The word is spelled into the draft and printed. */
    static int print(FerryTickets office, String word, int from, int to, int clause) {
        for (char letter : word.toCharArray()) {
            office.letter(letter);
        }
        return office.print(from, to, clause);
    }

    static void append(FerryTickets office, String text) {
        for (int i = 0; i < text.length(); i++) {
            office.append(text.charAt(i));
        }
    }

    static int read(FerryTickets office, String text) {
        append(office, text);
        return office.read();
    }

    static String line(FerryTickets office, int ticket) {
        return written(office, office.line(ticket));
    }

    static String holeLine(FerryTickets office, int ticket, boolean isReturn) {
        return written(office, office.holeLine(ticket, isReturn));
    }

    static String written(FerryTickets office, int length) {
        StringBuilder text = new StringBuilder();
        for (int i = 0; i < length; i++) {
            text.append(office.character(i));
        }
        return text.toString();
    }

    /** All that changes can change, as the face tells it. */
    static String digest(FerryTickets office) {
        StringBuilder text = new StringBuilder();
        for (int what = 0; what < 12; what++) {
            text.append(office.account(what)).append(' ');
        }
        for (int t = 0; t < office.account(0); t++) {
            for (int what = 0; what < 7; what++) {
                text.append(office.ticketOf(t, what)).append(' ');
            }
            for (int place = 0; place < office.ticketOf(t, 0); place++) {
                text.append(office.wordAt(t, place));
            }
            for (int half = 0; half < 2; half++) {
                for (int what = 0; what < 8; what++) {
                    text.append(' ').append(office.halfOf(t, half == 1, what));
                }
                text.append(' ').append(office.hinders(t, half == 1));
            }
        }
        return text.toString();
    }

    static void end(String name) {
        System.out.println(name + ": " + asked + " answers, " + wrong + " not as due");
        if (wrong != 0 || asked == 0) {
            System.exit(1);
        }
    }
}
