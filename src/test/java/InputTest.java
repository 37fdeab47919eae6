/** Promises 38 to 41. */
public final class InputTest {
    public static void main(String[] args) {
        append();
        orders();
        faults();
        fullBuffer();
        refusals();
        allOrNone();
        kept();
        Expect.end("InputTest");
    }

    private static int packed(int a, int b, int c, int d) {
        return a << 24 | b << 16 | c << 8 | d;
    }

    private static void append() {
        FerryTickets x = new FerryTickets();
        Expect.same("38: nothing", 0, x.append(0));
        Expect.same("38: the last byte", 1, x.append('d'));
        Expect.same("38: with a gap", 3, x.append(packed(';', 0, 'd', 0)));
        Expect.argument("38: 31", () -> x.append(31));
        Expect.argument("38: 127", () -> x.append(127));
        Expect.argument("38: 255", () -> x.append(-1));
        Expect.argument("38: in the first byte", () -> x.append(packed(200, 'd', 'd', 'd')));
        Expect.argument("38: in the second byte", () -> x.append(packed('d', 10, 'd', 'd')));
        Expect.same("38: none of it is kept", 3, x.account(12));
        Expect.same("38: the text", 2, x.read());
        Expect.same("38: the lowest and the highest", 2, x.append(packed(32, 0, 0, 126)));
        for (int i = 0; i < 14; i++) {
            x.append(packed('d', 'd', 'd', 'd'));
        }
        Expect.same("38: 58", 59, x.append('d'));
        Expect.state("38: 61", () -> x.append(packed('d', 0, 0, 'd')));
        Expect.argument("38: the byte comes first", () -> x.append(packed('d', 1, 'd', 'd')));
        Expect.same("38: 59 still", 59, x.account(12));
        Expect.same("38: 60", 60, x.append('d'));
        Expect.same("38: nothing more", 60, x.append(0));
        Expect.state("38: full", () -> x.append('d'));
        Expect.argument("39: malformed", () -> x.read());
        Expect.same("39: empty then", 0, x.account(12));
        Expect.same("38: order of the bytes", 4, x.append(packed('m', '0', '=', '3')));
        Expect.same("38: order of the bytes", 1, x.read());
        Expect.same("38: the mood is told", 3, x.mood(0, 1));
    }

    private static void orders() {
        FerryTickets x = new FerryTickets();
        x.letter('k');
        Expect.same("39: print", 1, Expect.read(x, "nbadu:0>3/2"));
        Expect.same("39: the draft stays", 1, x.account(1));
        Expect.same("39: from", 0, x.ticketOf(0, 2));
        Expect.same("39: to", 3, x.ticketOf(0, 3));
        Expect.same("39: clause", 2, x.ticketOf(0, 4));
        Expect.same("39: one change", 2, x.account(13));
        Expect.same("39: two tickets", 2, Expect.read(x, "nobebeb:4>1/9;nub:2>3/1"));
        Expect.same("39: six letters", 6, x.ticketOf(1, 0));
        Expect.same("39: mood and punch", 3, Expect.read(x, "m2=4;p1r=2;p1o=1"));
        Expect.same("39: mood", 4, x.halfOf(1, true, 1));
        Expect.same("39: out", 0, x.halfOf(1, false, 1));
        Expect.same("39: wet", 2, Expect.read(x, "w1r+1;w2o+5"));
        Expect.same("39: return", 1, x.halfOf(1, true, 2));
        Expect.same("39: the other", 2, x.halfOf(2, true, 2));
        Expect.same("39: tear", 1, Expect.read(x, "t1"));
        Expect.same("39: lose", 2, Expect.read(x, "l1o;l1r"));
        Expect.same("39: lost", 2, x.account(5));
        Expect.same("39: find and ride", 2, Expect.read(x, "f1o;g1o"));
        Expect.same("39: ridden", 1, x.account(9));
        Expect.same("39: piers", 3, Expect.read(x, "c0;c1;o0"));
        Expect.same("39: open", 4, x.account(3));
        Expect.same("39: open 0", "UnsupportedOperationException", Expect.outcome(() -> x.pier(0, true)));
        Expect.same("39: throw away and a day", 4, Expect.read(x, "x0;d;x1;d"));
        Expect.same("39: one ticket", 1, x.account(0));
        Expect.same("39: the right one", 'o', x.wordAt(0, 0));
        Expect.same("39: two days", 2, x.account(2));
        StringBuilder days = new StringBuilder("d");
        for (int i = 1; i < 30; i++) {
            days.append(";d");
        }
        Expect.same("39: many", 30, Expect.read(x, days.toString()));
        Expect.same("39: many days", 32, x.account(2));
    }

    private static void fault(String text, int due) {
        FerryTickets x = new FerryTickets();
        Expect.read(x, "nbadu:0>1/1");
        String before = Expect.digest(x);
        Expect.append(x, text);
        Expect.argument("39: " + text, () -> x.read());
        Expect.same("40: " + text, due, x.errorPosition());
        Expect.same("39: empty after " + text, 0, x.account(12));
        Expect.same("39: unchanged by " + text, before, Expect.digest(x));
        Expect.element("41: " + text, () -> x.refusedItem());
        Expect.state("34: " + text, () -> x.refusal(false));
    }

    private static void faults() {
        fault("", 0);
        fault(" ", 0);
        fault(";", 0);
        fault("!", 0);
        fault("@", 0);
        fault("h0o", 0);
        fault("d;", 2);
        fault("dd", 1);
        fault("d;;", 2);
        fault("d d", 1);
        fault("n", 1);
        fault("n:", 1);
        fault("nb", 2);
        fault("nbz", 2);
        fault("nb?:0>1/1", 2);
        fault("nbB:0>1/1", 2);
        fault("nbababa", 7);
        fault("nbababab:0>1/1", 7);
        fault("nba0", 3);
        fault("nba:", 4);
        fault("nba:a", 4);
        fault("nba:0", 5);
        fault("nba:0-", 5);
        fault("nba:0>", 6);
        fault("nba:0>:", 6);
        fault("nba:0>1", 7);
        fault("nba:0>1;", 7);
        fault("nba:0>1/", 8);
        fault("nba:0>1/d", 8);
        fault("nba:0>1/12", 9);
        fault("nba:0>1/1;", 10);
        fault("p", 1);
        fault("po", 1);
        fault("p0", 2);
        fault("p0=", 2);
        fault("p0o", 3);
        fault("p0h=0", 2);
        fault("p0o+", 3);
        fault("p0o=", 4);
        fault("p0o=r", 4);
        fault("p0o=00", 5);
        fault("w0o=", 3);
        fault("w0r+", 4);
        fault("w0r+-1", 4);
        fault("t", 1);
        fault("to", 1);
        fault("t0o", 2);
        fault("l0", 2);
        fault("l00", 2);
        fault("f0o=", 3);
        fault("g0;", 2);
        fault("m0", 2);
        fault("m0o", 2);
        fault("m0=", 3);
        fault("m0=;", 3);
        fault("c", 1);
        fault("o=", 1);
        fault("o0r", 2);
        fault("x", 1);
        fault("x;d", 1);
        fault("d0", 1);
        fault("d;d;t0;q", 7);
        StringBuilder days = new StringBuilder();
        for (int i = 0; i < 30; i++) {
            days.append("d;");
        }
        fault(days.toString(), 60);
    }

    /** Texts that end with the last of the 60 characters, behind which there is nothing to look at. */
    private static void fullBuffer() {
        String days = "d;".repeat(29);
        for (String last : new String[] {"t0", "c0", "x0"}) {
            FerryTickets x = new FerryTickets();
            Expect.read(x, "nba:0>1/1");
            Expect.same("39: 60 to " + last, 30, Expect.read(x, days + last));
            Expect.same("39: days to " + last, 29, x.account(2));
        }
        FerryTickets x = new FerryTickets();
        Expect.same("39: 60 to d", 30, Expect.read(x, "c0" + ";d".repeat(29)));
        Expect.same("39: 60 to g0o", "UnsupportedOperationException",
            Expect.outcome(() -> Expect.read(x, "m1=2;" + "d;".repeat(26) + "g0o")));
        Expect.same("41: 60 to g0o", 27, x.refusedItem());
        Expect.same("39: 60 to a print", 26, Expect.read(x, "d;".repeat(25) + "nbad:0>1/1"));
        Expect.same("39: printed", 3, x.ticketOf(0, 0));
        for (String last : new String[] {"nb", "p0", "m0", "l0", "w0"}) {
            fault(days + last, 60);
        }
        fault("d;".repeat(26) + "nbababab", 59);
        fault("d;".repeat(27) + "nbabab", 60);
    }

    private static void refuse(String text, int order, int reason, int detail) {
        FerryTickets x = new FerryTickets();
        Expect.read(x, "nbadu:0>1/1;p0o=0");
        String before = Expect.digest(x);
        Expect.append(x, text);
        Expect.same("39: " + text, "UnsupportedOperationException", Expect.outcome(() -> x.read()));
        Expect.same("41: " + text, order, x.refusedItem());
        Expect.same("39: empty after " + text, 0, x.account(12));
        Expect.same("39: unchanged by " + text, before, Expect.digest(x));
        Expect.same("39: changes after " + text, 1, x.account(13));
        Expect.element("40: " + text, () -> x.errorPosition());
        if (reason == 0) {
            Expect.state("34: " + text, () -> x.refusal(false));
        } else {
            Expect.same("34: reason of " + text, reason, x.refusal(false));
            Expect.same("34: detail of " + text, detail, x.refusal(true));
        }
    }

    private static void refusals() {
        refuse("na:0>1/1", 0, 2, 1);
        refuse("d;nbbbbbb:0>1/1", 1, 2, 6);
        refuse("nba:5>1/1", 0, 0, 0);
        refuse("nba:0>9/1", 0, 0, 0);
        refuse("nba:1>1/1", 0, 0, 0);
        refuse("nba:1>0/0", 0, 0, 0);
        refuse("p0o=1", 0, 3, 1);
        refuse("p0r=3", 0, 0, 0);
        refuse("p1r=0", 0, 0, 0);
        refuse("p0r=0;p0r=0", 1, 3, 1);
        refuse("w0r+0", 0, 0, 0);
        refuse("w1r+1", 0, 0, 0);
        refuse("w0r+7;t0", 1, 3, 1);
        refuse("t1", 0, 0, 0);
        refuse("l1o", 0, 0, 0);
        refuse("l0o;l0r", 1, 3, 1);
        refuse("f0o", 0, 3, 1);
        refuse("f3o", 0, 0, 0);
        refuse("g0r", 0, 5, 1);
        refuse("g1r", 0, 0, 0);
        refuse("d;d;p0r=0;g0r", 3, 7, 2);
        refuse("p0r=0;g0o;d;d;g0r", 4, 8, 2);
        refuse("c1;g0o", 1, 9, 1);
        refuse("w0o+5;g0o", 1, 10, 1);
        refuse("m3=0", 0, 0, 0);
        refuse("m0=5", 0, 0, 0);
        refuse("m0=0", 0, 3, 0);
        refuse("m0=4;m0=4", 1, 3, 4);
        refuse("c5", 0, 0, 0);
        refuse("o9", 0, 0, 0);
        refuse("o3", 0, 3, 1);
        refuse("c3;c3", 1, 3, 0);
        refuse("x1", 0, 0, 0);
        refuse("d;x0;x0", 2, 0, 0);
    }

    private static void allOrNone() {
        FerryTickets x = sevenTickets();
        String before = Expect.digest(sevenTickets());
        Expect.refused("39: nine", x, 1, 8, () -> Expect.read(x, "x0;d;nda:0>1/1;nda:0>1/1;nda:0>1/1"));
        Expect.same("41: nine", 4, x.refusedItem());
        Expect.same("39: none of them", before, Expect.digest(x));
        Expect.same("39: order of tickets", 'b', x.wordAt(6, 0));
        x.undo();
        x.undo();
        Expect.same("39: only what stood is undone", 4, x.account(0));
    }

    private static FerryTickets sevenTickets() {
        FerryTickets x = new FerryTickets();
        Expect.read(x, "nba:0>1/1;nba:0>1/1;nba:0>1/1;nba:0>1/1");
        Expect.read(x, "nba:0>1/1;nba:0>1/1;nba:0>1/1");
        x.letter('b');
        return x;
    }

    private static void kept() {
        FerryTickets x = new FerryTickets();
        Expect.outcome(() -> Expect.read(x, "d;z"));
        Expect.outcome(() -> Expect.read(x, "d;d;x0"));
        Expect.same("40: after a refused one", 2, x.errorPosition());
        Expect.outcome(() -> Expect.read(x, "d;d;d;"));
        Expect.same("40: the last one", 6, x.errorPosition());
        Expect.same("41: after a malformed one", 2, x.refusedItem());
        Expect.read(x, "d");
        Expect.same("40: after a right one", 6, x.errorPosition());
        Expect.same("41: after a right one", 2, x.refusedItem());
        Expect.outcome(() -> Expect.read(x, "x0"));
        Expect.same("41: the last one", 0, x.refusedItem());
        Expect.outcome(() -> Expect.read(x, "o0"));
        Expect.outcome(() -> Expect.read(x, "x0"));
        Expect.same("34: an older refusal stays", 3, x.refusal(false));
    }
}
