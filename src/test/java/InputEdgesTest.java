import java.util.ArrayList;
import java.util.List;
import java.util.function.Supplier;

/** The boundary cases of promises 38 to 41, and of what the terms say of the input. */
public final class InputEdgesTest {
    private static final String DIGITS = "0123456789";
    private static final String ORDERS = "npwtlfgmcoxd";
    private static final String HALF = "or";

    public static void main(String[] args) throws IllegalAccessException {
        Edges.run(InputEdgesTest.class);
    }

    private static FerryTickets filled(int count) {
        FerryTickets x = new FerryTickets();
        for (int i = 0; i < count; i++) {
            x.append(i % 2 == 0 ? 'd' : ';');
        }
        return x;
    }

    private static FerryTickets appended(FerryTickets x, String text) {
        Expect.append(x, text);
        return x;
    }

    private static int packed(int first, int second, int third, int fourth) {
        return first << 24 | second << 16 | third << 8 | fourth;
    }

    // ---- 38: append

    static void p38_nothing() {
        Expect.same("empty", 0, new FerryTickets().append(0));
        Expect.same("filled", 3, filled(3).append(0));
        Expect.same("full", 60, filled(60).append(0));
    }

    static void p38_oneByteAtEachPlace() {
        for (int shift = 0; shift < 32; shift += 8) {
            FerryTickets x = new FerryTickets();
            Expect.same("shift " + shift, 1, x.append('d' << shift));
            Expect.same("read", 1, x.read());
        }
    }

    static void p38_zerosBetweenAreSkipped() {
        FerryTickets x = new FerryTickets();
        Expect.same("first and last", 2, x.append(packed('c', 0, 0, '3')));
        Expect.same("in the middle", 4, x.append(packed(0, ';', 'd', 0)));
        Expect.same("read", 2, x.read());
        Expect.same("closed", 4, x.account(3));
    }

    static void p38_mostSignificantFirst() {
        FerryTickets x = new FerryTickets();
        Expect.same("four", 4, x.append(packed('m', '1', '=', '4')));
        x.read();
        Expect.same("mood", 4, x.mood(1, 0));
    }

    static void p38_lowestAndHighestCode() {
        Expect.same("32 and 126", 4, new FerryTickets().append(packed(32, 126, 126, 32)));
    }

    static void p38_eachCode() {
        for (int code = 0; code < 256; code++) {
            for (int shift = 0; shift < 32; shift += 8) {
                int one = code << shift;
                Object due = code == 0 ? (Object) 0 : code < 32 || code > 126 ? Edges.ARGUMENT : (Object) 1;
                Expect.same("code " + code, due, Expect.outcome(() -> new FerryTickets().append(one)));
            }
        }
    }

    static void p38_oneBadByteAmongFour() {
        for (int bad : new int[] {1, 31, 127, 128, 255}) {
            Edges.unchanged(Edges.ARGUMENT, Edges::rich, x -> x.append(packed(bad, 'd', ';', 'd')));
            Edges.unchanged(Edges.ARGUMENT, Edges::rich, x -> x.append(packed('d', bad, ';', 'd')));
            Edges.unchanged(Edges.ARGUMENT, Edges::rich, x -> x.append(packed('d', ';', bad, 'd')));
            Edges.unchanged(Edges.ARGUMENT, Edges::rich, x -> x.append(packed('d', ';', 'd', bad)));
        }
    }

    static void p38_sixty() {
        Expect.same("by one", 60, filled(59).append('d'));
        Expect.same("by four", 60, filled(56).append(packed('d', ';', 'd', ';')));
        Expect.same("by two", 60, filled(58).append(packed('d', 0, 0, ';')));
    }

    static void p38_sixtyOne() {
        Edges.unchanged(Edges.STATE, () -> filled(60), x -> x.append('d'));
        Edges.unchanged(Edges.STATE, () -> filled(59), x -> x.append(packed(0, ';', 'd', 0)));
        Edges.unchanged(Edges.STATE, () -> filled(57), x -> x.append(packed(';', 'd', ';', 'd')));
    }

    static void p38_badByteBeforeRoom() {
        Edges.unchanged(Edges.ARGUMENT, () -> filled(60), x -> x.append(packed('d', 0, 0, 127)));
        Edges.unchanged(Edges.ARGUMENT, () -> filled(60), x -> x.append(31));
    }

    static void p38_roomAfterRead() {
        FerryTickets x = filled(60);
        Expect.argument("read", () -> x.read());
        Expect.same("one", 1, x.append('d'));
        Expect.same("read", 1, x.read());
    }

    static void p38_noChange() {
        FerryTickets x = filled(5);
        Expect.same("changes", 0, x.account(13));
        Expect.state("undo", () -> x.undo());
    }

    // ---- 39: read, and 40: the error position, by what may stand at each place of an order

    private static List<String[]> forms() {
        List<String[]> forms = new ArrayList<>();
        for (int letters = 1; letters <= 6; letters++) {
            String[] form = new String[letters + 7];
            form[0] = "n";
            for (int i = 1; i <= letters; i++) {
                form[i] = Edges.LETTERS;
            }
            String[] tail = {":", DIGITS, ">", DIGITS, "/", DIGITS};
            System.arraycopy(tail, 0, form, letters + 1, tail.length);
            forms.add(form);
        }
        forms.add(new String[] {"p", DIGITS, HALF, "=", DIGITS});
        forms.add(new String[] {"w", DIGITS, HALF, "+", DIGITS});
        forms.add(new String[] {"m", DIGITS, "=", DIGITS});
        for (String order : new String[] {"l", "f", "g"}) {
            forms.add(new String[] {order, DIGITS, HALF});
        }
        for (String order : new String[] {"t", "c", "o", "x"}) {
            forms.add(new String[] {order, DIGITS});
        }
        forms.add(new String[] {"d"});
        return forms;
    }

    private static String prefix(String[] form, int length, int turn) {
        StringBuilder text = new StringBuilder();
        for (int i = 0; i < length; i++) {
            text.append(form[i].charAt((turn + 3 * i) % form[i].length()));
        }
        return text.toString();
    }

    /** The input is malformed, the error position is this, and nothing else is changed but the buffer. */
    private static void malformed(String text, int due) {
        Supplier<FerryTickets> made = Edges::rich;
        FerryTickets x = afterMalformed(text);
        Expect.same("position of " + text, due, x.errorPosition());
        Expect.same("buffer after " + text, 0, x.account(12));
        Expect.same("digest after " + text, Expect.digest(made.get()), Expect.digest(x));
        Expect.same("changes after " + text, 8, x.account(13));
        Expect.same("item and refusal", made.get().refusedItem() + Edges.refusal(made.get()), x.refusedItem() + Edges.refusal(x));
    }

    private static FerryTickets afterMalformed(String text) {
        FerryTickets x = Edges.afterRead(Edges.rich());
        Expect.append(x, text);
        Expect.argument("read of " + text, () -> x.read());
        return x;
    }

    private static void position(String text, int due) {
        FerryTickets x = appended(new FerryTickets(), text);
        Expect.argument("read of " + text, () -> x.read());
        Expect.same("position of " + text, due, x.errorPosition());
    }

    static void p39_emptyBuffer() {
        malformed("", 0);
    }

    static void p39_malformedLeavesAll() {
        malformed("d;d;", 4);
        malformed("nba:0>1/1;x0;q", 13);
        Supplier<FerryTickets> made = () -> Edges.afterRead(Edges.rich());
        Supplier<FerryTickets> after = () -> afterMalformed("d;z");
        Expect.same("all", Edges.now(made) + Edges.undoable(made) + Edges.saved(made) + Edges.text(made.get()),
            Edges.now(after) + Edges.undoable(after) + Edges.saved(after) + Edges.text(after.get()));
    }

    static void p39_oneDigitOnly() {
        position("d;nba:0>1/10", 11);
        position("t10", 2);
        position("m0=00", 4);
        position("w0o+09", 5);
        position("p10o=0", 2);
    }

    static void p39_wordOfOneToSixLetters() {
        position("n:0>1/1", 1);
        Expect.same("one letter is refused", Edges.REFUSED, Expect.outcome(() -> Edges.office("na:0>1/1")));
        Expect.same("two", 2, Edges.office("nba:0>1/1").ticketOf(0, 0));
        Expect.same("six", 6, Edges.office("nbanana:0>1/1").ticketOf(0, 0));
        position("nbananan:0>1/1", 7);
    }

    static void p39_oneOrder() {
        Expect.same("orders", 1, Expect.read(new FerryTickets(), "d"));
        Expect.same("orders", 1, Expect.read(new FerryTickets(), "nba:0>1/1"));
    }

    static void p39_thirtyOrders() {
        FerryTickets x = filled(59);
        Expect.same("orders", 30, x.read());
        Expect.same("days", 30, x.account(2));
        Expect.same("one change", 0, x.undo());
        Expect.same("days", 0, x.account(2));
    }

    static void p39_sixtyCharacters() {
        FerryTickets x = Edges.withTickets(1);
        Expect.same("orders", 30, Expect.read(x, "d;".repeat(29) + "t0"));
        Expect.same("torn", 1, x.account(4));
        Expect.same("orders", 26, Expect.read(x, "d;".repeat(25) + "nbed:4>3/2"));
        Expect.same("clause", 2, x.ticketOf(1, 4));
    }

    static void p39_leavesLineAndRefusal() {
        FerryTickets x = Edges.withTickets(1);
        x.line(0);
        Expect.refused("unletter", x, 11, 1, () -> x.unletter());
        Expect.read(x, "p0o=0;x0");
        Expect.same("line", ".-.:0>1", Edges.text(x));
        Expect.same("refusal", "11 1", Edges.refusal(x));
    }

    static void p39_emptyAfterwards() {
        FerryTickets x = filled(3);
        x.read();
        Expect.same("read", 0, x.account(12));
        Expect.append(x, "d;");
        Expect.argument("malformed", () -> x.read());
        Expect.same("malformed", 0, x.account(12));
        Expect.append(x, "d;x0");
        Expect.same("refused", Edges.REFUSED, Expect.outcome(() -> x.read()));
        Expect.same("refused", 0, x.account(12));
        Expect.same("only what came later", 1, Expect.read(x, "d"));
    }

    static void p39_eachFormIsRead() {
        for (String[] form : forms()) {
            for (int turn = 0; turn < 14; turn++) {
                FerryTickets x = appended(new FerryTickets(), prefix(form, form.length, turn));
                Expect.outcome(() -> x.read());
                Expect.element(prefix(form, form.length, turn), () -> x.errorPosition());
            }
        }
    }

    static void p39_draftStays() {
        FerryTickets x = new FerryTickets();
        Edges.spell(x, "kolibu");
        Expect.read(x, "nba:0>1/1");
        Expect.same("letters", 6, x.account(1));
        x.print(0, 1, 1);
        Expect.same("word", 'u', x.wordAt(1, 5));
        Expect.same("the other", 2, x.ticketOf(0, 0));
    }

    static void p39_draftIsNotTheWord() {
        FerryTickets x = new FerryTickets();
        x.letter('a');
        Expect.append(x, "nb:0>1/1");
        Expect.refused("one letter", x, 2, 1, () -> x.read());
    }

    // ---- 39: an order for which a method would throw

    /** Behind orders that are carried out and taken back, this one is refused with this reason, 0 for none. */
    private static void refused(String order, int reason, int detail, String... before) {
        for (String first : new String[] {"", "d;", "d;m1=3;x2;"}) {
            Supplier<FerryTickets> made = () -> prepared(before);
            Supplier<FerryTickets> after = () -> afterRefused(prepared(before), first + order);
            FerryTickets x = after.get();
            int item = first.isEmpty() ? 0 : first.length() == 2 ? 1 : 3;
            Expect.same("item of " + order, item, x.refusedItem());
            Expect.same("refusal of " + order, reason == 0 ? "11 3" : reason + " " + detail, Edges.refusal(x));
            Expect.same("buffer after " + order, 0, x.account(12));
            Expect.same("none of it after " + order, Edges.now(made) + Edges.undoable(made) + Edges.saved(made),
                Edges.now(after) + Edges.undoable(after) + Edges.saved(after));
            Expect.element("no position of " + order, () -> x.errorPosition());
        }
    }

    private static FerryTickets prepared(String... texts) {
        FerryTickets x = Edges.office("nbadu:0>3/1;nbe:1>2/2;nba:0>1/1;p0o=0;p0r=0");
        Expect.outcome(() -> x.unletter());
        for (String text : texts) {
            Expect.read(x, text);
        }
        return x;
    }

    private static FerryTickets afterRefused(FerryTickets x, String text) {
        Expect.append(x, text);
        Expect.same("read of " + text, Edges.REFUSED, Expect.outcome(() -> x.read()));
        return x;
    }

    static void p39_printRefused() {
        refused("nb:0>1/1", 2, 1);
        refused("nbbbbbb:0>1/1", 2, 6);
    }

    static void p39_ninthTicket() {
        FerryTickets x = Edges.withTickets(6);
        Expect.append(x, "nba:0>1/1;nda:0>1/1;nka:0>1/1");
        Expect.refused("read", x, 1, 8, () -> x.read());
        Expect.same("item", 2, x.refusedItem());
        Expect.same("tickets", 6, x.account(0));
        Expect.same("printed", 6, x.account(8));
        Expect.same("with one thrown away", 3, Expect.read(x, "nba:0>1/1;nda:0>1/1;x0"));
        Expect.same("the eighth", 1, Expect.read(x, "nka:0>1/1"));
        Expect.same("its number", 'k', x.wordAt(7, 0));
    }

    static void p39_printOutOfRange() {
        refused("nba:5>1/1", 0, 0);
        refused("nba:0>9/1", 0, 0);
        refused("nba:1>1/1", 0, 0);
        refused("nba:0>1/0", 0, 0);
        refused("nb:5>1/1", 0, 0);
        refused("nb:1>1/1", 0, 0);
    }

    static void p39_punchRefused() {
        refused("p0o=1", 3, 1);
        refused("p3r=0", 0, 0);
        refused("p1r=3", 0, 0);
        refused("p0o=9", 0, 0);
    }

    static void p39_wetOutOfRange() {
        refused("w0o+0", 0, 0);
        refused("w3o+1", 0, 0);
        refused("w9r+9", 0, 0);
    }

    static void p39_tearRefused() {
        refused("t0", 3, 1, "t0");
        refused("t3", 0, 0);
    }

    static void p39_loseRefused() {
        refused("l0o", 3, 1, "l0r");
        refused("l3o", 0, 0);
    }

    static void p39_findRefused() {
        refused("f0r", 3, 1);
        refused("f3r", 0, 0);
    }

    static void p39_rideRefused() {
        refused("g0o", 4, 0, "l0o");
        refused("g1o", 5, 0);
        refused("g1r", 5, 1);
        refused("g0o", 6, 0, "g0o");
        refused("g0o", 9, 3, "c3");
        refused("g0o", 10, 1, "w0o+3");
        refused("g3o", 0, 0);
    }

    static void p39_moodRefused() {
        refused("m0=0", 3, 0);
        refused("m2=4", 3, 4, "m2=4");
        refused("m3=0", 0, 0);
        refused("m0=5", 0, 0);
    }

    static void p39_pierRefused() {
        refused("o4", 3, 1);
        refused("c4", 3, 0, "c4");
        refused("c5", 0, 0);
        refused("o5", 0, 0);
    }

    static void p39_throwAwayOutOfRange() {
        refused("x3", 0, 0);
        refused("x9", 0, 0);
    }

    static void p39_detailAsTheOrdersBeforeMadeIt() {
        FerryTickets x = prepared();
        Expect.append(x, "d;d;g0r");
        Expect.refused("the day then", x, 7, 2, () -> x.read());
        Expect.append(x, "g0o;d;d;d;g0r");
        Expect.refused("days ago then", x, 8, 3, () -> x.read());
        Expect.append(x, "x0;x0;x0;nda:0>1/1;g0o");
        Expect.refused("the ticket then", x, 5, 0, () -> x.read());
        Expect.same("day", 0, x.account(2));
        Expect.same("tickets", 3, x.account(0));
    }

    static void p39_ordersOneAfterTheOther() {
        FerryTickets x = Edges.office("nba:0>1/1;nde:0>1/1;x0;p0o=0;m0=2;p0r=0;c1;o1;g0o;d;g0r");
        Expect.same("word", 'd', x.wordAt(0, 0));
        Expect.same("out", 0, x.halfOf(0, false, 1));
        Expect.same("return", 2, x.halfOf(0, true, 1));
        Expect.same("ridden", 1, x.account(10));
    }

    static void p39_malformedBehindARefusedOrder() {
        FerryTickets x = appended(new FerryTickets(), "x0;z");
        Expect.argument("read", () -> x.read());
        Expect.same("position", 3, x.errorPosition());
        Expect.element("item", () -> x.refusedItem());
    }

    // ---- 40: errorPosition

    static void p40_none() {
        Edges.unchanged(Edges.ELEMENT, FerryTickets::new, x -> x.errorPosition());
        FerryTickets x = Edges.office("d");
        Expect.outcome(() -> Expect.read(x, "x0"));
        Expect.element("none malformed", () -> x.errorPosition());
    }

    static void p40_emptyInput() {
        position("", 0);
    }

    static void p40_lengthWhereTheTextEnds() {
        for (String[] form : forms()) {
            for (int length = 1; length < form.length; length++) {
                position(prefix(form, length, length), length);
                position("d;" + prefix(form, length, length), length + 2);
            }
        }
    }

    static void p40_eachCharacterAtEachPlace() {
        for (String[] form : forms()) {
            for (int place = 0; place <= form.length; place++) {
                String before = prefix(form, place, place);
                for (char sign = 32; sign <= 126; sign++) {
                    if (allowed(form, place).indexOf(sign) < 0) {
                        position(before + sign + "d;", place);
                    }
                }
            }
        }
    }

    private static String allowed(String[] form, int place) {
        if (place == 0) {
            return ORDERS;
        }
        if (place == form.length) {
            return ";";
        }
        boolean isBehindALetter = form[0].equals("n") && place > 1 && place <= form.length - 6;
        return isBehindALetter ? (place < 7 ? Edges.LETTERS : "") + ":" : form[place];
    }

    static void p40_behindASemicolon() {
        position(";", 0);
        position("d;", 2);
        position("d;;", 2);
        position("d; d", 2);
        position("nba:0>1/1;", 10);
        for (char sign = 32; sign <= 126; sign++) {
            if (ORDERS.indexOf(sign) < 0) {
                position("d;" + sign, 2);
            }
        }
    }

    static void p40_seventhLetter() {
        position("nbananab", 7);
        position("nbananab:0>1/1", 7);
        position("nbanana", 7);
        position("nbananaz", 7);
        position("d;nkkkkkkk", 9);
    }

    static void p40_noLetterOfAWord() {
        position("nbc", 2);
        position("nB", 1);
        position("nb?:0>1/1", 2);
        position("nba0", 3);
        position("nbanan;", 6);
    }

    static void p40_lowestOfSeveralFaults() {
        position("d;z;q;!", 2);
        position("zz", 0);
    }

    static void p40_aFullBuffer() {
        position("d;".repeat(30), 60);
        position("d;".repeat(29) + "p0", 60);
        position("d;".repeat(29) + "nb", 60);
        position("d;".repeat(29) + "dd", 59);
        position("d;".repeat(27) + "nbanan", 60);
        position("d;".repeat(26) + "nbananab", 59);
        position("d;".repeat(26) + "nba:0>1", 59);
        position("d;".repeat(26) + "nba:0>1/", 60);
    }

    static void p40_whateverWasReadAfterIt() {
        FerryTickets x = new FerryTickets();
        Expect.outcome(() -> Expect.read(x, "d;d;z"));
        Expect.read(x, "d");
        Expect.same("read", 4, x.errorPosition());
        Expect.outcome(() -> Expect.read(x, "x0"));
        Expect.same("refused", 4, x.errorPosition());
        Expect.outcome(() -> x.read());
        Expect.same("the last", 0, x.errorPosition());
    }

    // ---- 41: refusedItem

    static void p41_none() {
        Edges.unchanged(Edges.ELEMENT, FerryTickets::new, x -> x.refusedItem());
        FerryTickets x = Edges.office("d");
        Expect.outcome(() -> Expect.read(x, "z"));
        Expect.outcome(() -> x.unletter());
        Expect.element("no order refused", () -> x.refusedItem());
    }

    static void p41_firstAndLastOrder() {
        FerryTickets x = new FerryTickets();
        Expect.outcome(() -> Expect.read(x, "x0;d;d"));
        Expect.same("first", 0, x.refusedItem());
        Expect.outcome(() -> Expect.read(x, "d;".repeat(29) + "x0"));
        Expect.same("last of thirty", 29, x.refusedItem());
    }

    static void p41_theFirstThatIsRefused() {
        FerryTickets x = new FerryTickets();
        Expect.outcome(() -> Expect.read(x, "d;x0;m0=0;x0"));
        Expect.same("item", 1, x.refusedItem());
        Expect.state("the later ones are not tried", () -> x.refusal(false));
    }

    static void p41_whateverWasReadAfterIt() {
        FerryTickets x = new FerryTickets();
        Expect.outcome(() -> Expect.read(x, "d;d;x0"));
        Expect.read(x, "d");
        Expect.same("read", 2, x.refusedItem());
        Expect.outcome(() -> Expect.read(x, "z"));
        Expect.same("malformed", 2, x.refusedItem());
        Expect.outcome(() -> Expect.read(x, "x0"));
        Expect.same("the last", 0, x.refusedItem());
    }
}
