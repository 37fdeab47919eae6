/** Promises 1 to 10. */
public final class TicketsTest {
    public static void main(String[] args) {
        newObject();
        clear();
        letters();
        print();
        throwAway();
        moods();
        piers();
        ticketOf();
        wordAt();
        Expect.end("TicketsTest");
    }

    private static void newObject() {
        FerryTickets x = new FerryTickets();
        int[] due = {0, 0, 0, 5, 0, 0, 0, 0, 0, 0, 0, 0, 0, 0};
        for (int what = 0; what < due.length; what++) {
            Expect.same("1: account " + what, due[what], x.account(what));
        }
        Expect.index("1: no line", () -> x.character(0));
        Expect.state("1: no refusal", () -> x.refusal(false));
        Expect.state("1: no undo", () -> x.undo());
        Expect.state("1: no snapshot", () -> x.restore());
        Expect.element("1: no error position", () -> x.errorPosition());
        Expect.element("1: no refused item", () -> x.refusedItem());
    }

    private static void clear() {
        FerryTickets x = new FerryTickets();
        String empty = Expect.digest(x);
        Expect.same("2: clear of nothing", 0, x.clear());
        Expect.read(x, "nba:0>1/2;nki:1>2/3;p0o=0;p0r=0;g0o;g0r;m1=4;c4;d;l0o;t1");
        Expect.read(x, "m0=2;c0");
        x.letter('b');
        Expect.outcome(() -> x.pier(4, false));
        Expect.outcome(() -> Expect.read(x, "z"));
        Expect.outcome(() -> Expect.read(x, "d;c4"));
        x.line(0);
        x.snapshot();
        x.append('d');
        String before = Expect.digest(x);
        Expect.same("2: clear", 2, x.clear());
        Expect.same("2: all is as new", empty, Expect.digest(x));
        Expect.same("2: buffer stays", 1, x.account(12));
        Expect.same("2: nothing can be undone", 0, x.account(13));
        Expect.state("2: undo", () -> x.undo());
        Expect.same("2: refusal stays", 3, x.refusal(false));
        Expect.same("2: error position stays", 0, x.errorPosition());
        Expect.same("2: refused item stays", 1, x.refusedItem());
        Expect.same("2: line stays", '_', x.character(0));
        Expect.same("2: moods are new", 0, x.mood(0, 4));
        Expect.same("2: moods are new", 0, x.mood(1, 4));
        Expect.refused("2: piers are open", x, 3, 1, () -> x.pier(0, true));
        Expect.refused("2: piers are open", x, 3, 1, () -> x.pier(4, true));
        Expect.same("2: snapshot stays", 2, x.restore());
        Expect.same("2: restored", before, Expect.digest(x));
    }

    private static void letters() {
        FerryTickets x = new FerryTickets();
        Expect.refused("4: empty draft", x, 11, 0, () -> x.unletter());
        for (char letter = 0; letter < 300; letter++) {
            char one = letter;
            if ("bdklmnrstaeiou".indexOf(letter) >= 0) {
                Expect.same("3: " + letter, 1, x.letter(letter));
                Expect.same("4: " + letter, 0, x.unletter());
            } else {
                Expect.argument("3: character " + (int) letter, () -> x.letter(one));
            }
        }
        Expect.argument("3: a far character", () -> x.letter('\uffff'));
        for (int length = 1; length <= 6; length++) {
            Expect.same("3: letter " + length, length, x.letter('o'));
        }
        Expect.refused("3: a seventh letter", x, 1, 6, () -> x.letter('b'));
        Expect.argument("3: the argument comes first", () -> x.letter('x'));
        Expect.same("4: unletter", 5, x.unletter());
        x.print(0, 1, 1);
        Expect.same("4: the last letter went", 5, x.ticketOf(0, 0));
        Expect.refused("4: empty again", x, 11, 1, () -> x.unletter());
    }

    private static void print() {
        FerryTickets x = new FerryTickets();
        Expect.refused("5: no letter", x, 2, 0, () -> x.print(0, 1, 1));
        x.letter('a');
        Expect.refused("5: one letter", x, 2, 1, () -> x.print(0, 1, 1));
        x.unletter();
        x.letter('b');
        x.letter('t');
        Expect.refused("5: no vowel", x, 2, 2, () -> x.print(0, 1, 1));
        x.letter('u');
        Expect.index("5: from", () -> x.print(5, 0, 1));
        Expect.index("5: from below", () -> x.print(-1, 0, 1));
        Expect.index("5: to", () -> x.print(0, 5, 1));
        Expect.index("5: to below", () -> x.print(0, -1, 1));
        Expect.index("5: the pier comes first", () -> x.print(7, 7, 0));
        Expect.argument("5: one pier", () -> x.print(3, 3, 1));
        Expect.argument("5: clause 0", () -> x.print(0, 1, 0));
        Expect.argument("5: clause 10", () -> x.print(0, 1, 10));
        Expect.same("5: a refused draft stays", 3, x.account(1));
        Expect.same("5: print", 0, x.print(4, 0, 9));
        Expect.same("5: the draft is empty", 0, x.account(1));
        for (int ticket = 1; ticket < 8; ticket++) {
            Expect.same("5: number", ticket, Expect.print(x, "ab", 0, 1, 1));
        }
        x.letter('b');
        Expect.refused("5: the word comes first", x, 2, 1, () -> x.print(0, 1, 1));
        x.letter('e');
        Expect.refused("5: too many", x, 1, 8, () -> x.print(0, 1, 1));
        Expect.argument("5: the clause comes first", () -> x.print(0, 1, 0));
        x.throwAway(3);
        Expect.same("5: room again", 7, x.print(0, 1, 1));
        Expect.same("5: printed so far", 9, x.account(8));
    }

    private static void throwAway() {
        FerryTickets x = new FerryTickets();
        Expect.index("6: none", () -> x.throwAway(0));
        Expect.print(x, "ba", 0, 1, 1);
        Expect.print(x, "de", 1, 2, 2);
        Expect.print(x, "kid", 2, 3, 3);
        x.punch(1, false, 0);
        x.ride(1, false);
        Expect.index("6: below", () -> x.throwAway(-1));
        Expect.index("6: above", () -> x.throwAway(3));
        Expect.same("6: throwAway", 2, x.throwAway(1));
        Expect.same("6: the first stays", 'b', x.wordAt(0, 0));
        Expect.same("6: the later one moves up", 'k', x.wordAt(1, 0));
        Expect.same("6: with its clause", 3, x.ticketOf(1, 4));
        Expect.same("6: punched halves", 0, x.account(6));
        Expect.same("6: rides stay counted", 1, x.account(9));
        Expect.same("6: holes stay counted", 2, x.account(11));
        Expect.same("6: prints stay counted", 3, x.account(8));
        Expect.index("6: the number is free", () -> x.throwAway(2));
        Expect.same("6: a new one is new", 2, Expect.print(x, "lo", 0, 1, 1));
        Expect.same("6: not punched", 0, x.halfOf(2, false, 0));
        Expect.same("6: not ridden", -1, x.ticketOf(2, 6));
        Expect.same("6: nor lost nor wet nor torn", ".-.:0>1", Expect.line(x, 2));
        x.punch(2, false, 0);
        Expect.same("6: it can be ridden", 3, x.ride(2, false) + x.halfOf(2, false, 6));
    }

    private static void moods() {
        FerryTickets x = new FerryTickets();
        Expect.index("7: above", () -> x.mood(3, 0));
        Expect.index("7: below", () -> x.mood(-1, 9));
        Expect.argument("7: mood 5", () -> x.mood(0, 5));
        Expect.argument("7: mood -1", () -> x.mood(0, -1));
        for (int puncher = 0; puncher < 3; puncher++) {
            int one = puncher;
            Expect.refused("7: so already", x, 3, 0, () -> x.mood(one, 0));
            Expect.same("7: before", 0, x.mood(puncher, 4 - puncher));
            Expect.refused("7: so already", x, 3, 4 - puncher, () -> x.mood(one, 4 - one));
        }
        Expect.same("7: before", 3, x.mood(1, 0));
        Expect.same("7: before", 4, x.mood(0, 1));
    }

    private static void piers() {
        FerryTickets x = new FerryTickets();
        Expect.index("8: above", () -> x.pier(5, true));
        Expect.index("8: below", () -> x.pier(-1, false));
        Expect.refused("8: open already", x, 3, 1, () -> x.pier(0, true));
        for (int pier = 0; pier < 5; pier++) {
            int one = pier;
            Expect.same("8: close", 4 - pier, x.pier(pier, false));
            Expect.refused("8: closed already", x, 3, 0, () -> x.pier(one, false));
        }
        Expect.same("8: open", 1, x.pier(2, true));
        Expect.refused("8: open again", x, 3, 1, () -> x.pier(2, true));
    }

    private static void ticketOf() {
        FerryTickets x = new FerryTickets();
        Expect.index("9: none", () -> x.ticketOf(0, 0));
        Expect.print(x, "ba", 0, 1, 1);
        Expect.print(x, "bandeu", 4, 2, 7);
        int[] due = {6, 3, 4, 2, 7, 0, -1};
        for (int what = 0; what < due.length; what++) {
            Expect.same("9: what " + what, due[what], x.ticketOf(1, what));
        }
        Expect.argument("9: what 7", () -> x.ticketOf(1, 7));
        Expect.argument("9: what -1", () -> x.ticketOf(1, -1));
        Expect.index("9: the ticket comes first", () -> x.ticketOf(2, 7));
        Expect.index("9: below", () -> x.ticketOf(-1, 0));
        x.tear(1);
        Expect.same("9: torn", 1, x.ticketOf(1, 5));
        Expect.same("9: the other is not", 0, x.ticketOf(0, 5));
        x.day();
        x.day();
        x.punch(1, false, 0);
        x.ride(1, false);
        x.day();
        Expect.same("9: day of the ride", 2, x.ticketOf(1, 6));
    }

    private static void wordAt() {
        FerryTickets x = new FerryTickets();
        Expect.index("10: none", () -> x.wordAt(0, 0));
        Expect.print(x, "rust", 0, 1, 1);
        x.mood(0, 2);
        x.punch(0, false, 0);
        x.wet(0, false, 9);
        for (int place = 0; place < 4; place++) {
            Expect.same("10: place " + place, "rust".charAt(place), x.wordAt(0, place));
        }
        Expect.element("10: place 4", () -> x.wordAt(0, 4));
        Expect.element("10: place -1", () -> x.wordAt(0, -1));
        Expect.index("10: the ticket comes first", () -> x.wordAt(1, 9));
        Expect.index("10: below", () -> x.wordAt(-1, 0));
    }
}
