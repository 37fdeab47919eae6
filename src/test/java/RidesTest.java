/** Promises 22 to 30. */
public final class RidesTest {
    public static void main(String[] args) {
        ride();
        rideReturn();
        ridePiers();
        hinders();
        day();
        daysLeft();
        wordsAndSharing();
        often();
        ranked();
        isRight();
        Expect.end("RidesTest");
    }

    private static void ride() {
        FerryTickets x = new FerryTickets();
        Expect.index("22: no ticket", () -> x.ride(0, false));
        Expect.read(x, "nbadu:0>3/2;nbide:4>1/1");
        Expect.index("22: below", () -> x.ride(-1, false));
        Expect.refused("22: out, not punched", x, 5, 0, () -> x.ride(0, false));
        Expect.refused("22: return, not punched", x, 5, 1, () -> x.ride(0, true));
        x.lose(0, true);
        Expect.refused("22: out, lost", x, 4, 0, () -> x.ride(0, false));
        Expect.refused("22: return, lost", x, 4, 1, () -> x.ride(0, true));
        x.find(0, true);
        x.punch(0, false, 0);
        Expect.same("22: out", 1, x.ride(0, false));
        Expect.refused("22: out, ridden", x, 6, 0, () -> x.ride(0, false));
        x.lose(0, false);
        Expect.refused("22: lost comes first", x, 4, 0, () -> x.ride(0, false));
        x.find(0, false);
        x.punch(0, true, 0);
        Expect.same("22: return", 2, x.ride(0, true));
        Expect.refused("22: return, ridden", x, 6, 1, () -> x.ride(0, true));
        x.punch(1, false, 0);
        Expect.same("22: another ticket", 3, x.ride(1, false));
        Expect.same("22: out halves", 2, x.account(9));
        Expect.same("22: return halves", 1, x.account(10));
        x.throwAway(0);
        Expect.same("22: so far", 2, x.account(9));
    }

    private static void rideReturn() {
        FerryTickets x = new FerryTickets();
        Expect.read(x, "nbadu:0>3/2;p0o=0;p0r=0;d;d;d");
        Expect.refused("22: before the out half", x, 7, 3, () -> x.ride(0, true));
        x.ride(0, false);
        Expect.read(x, "d;d");
        x.snapshot();
        Expect.same("22: on the last day", 2, x.ride(0, true));
        x.restore();
        x.day();
        Expect.refused("22: a day too late", x, 8, 3, () -> x.ride(0, true));
        x.day();
        x.pier(0, false);
        Expect.refused("22: the clause comes before the pier", x, 8, 4, () -> x.ride(0, true));
        x.restore();
        x.tear(0);
        x.lose(0, false);
        Expect.same("22: without the out half", 2, x.ride(0, true));
    }

    private static void ridePiers() {
        FerryTickets x = new FerryTickets();
        Expect.read(x, "nbadu:3>1/2;p0o=0;p0r=0");
        x.pier(3, false);
        Expect.refused("22: closed from", x, 9, 3, () -> x.ride(0, false));
        x.pier(1, false);
        Expect.refused("22: both closed", x, 9, 1, () -> x.ride(0, false));
        x.pier(3, true);
        Expect.refused("22: closed to", x, 9, 1, () -> x.ride(0, false));
        x.wet(0, false, 3);
        Expect.refused("22: the pier comes first", x, 9, 1, () -> x.ride(0, false));
        x.pier(1, true);
        Expect.refused("22: another word", x, 10, 1, () -> x.ride(0, false));
        x.pier(0, false);
        x.pier(2, false);
        x.pier(4, false);
        FerryTickets y = new FerryTickets();
        Expect.read(y, "nstaun:3>1/2;p0o=0;c0;c2;c4");
        Expect.same("22: other piers are nothing", 1, y.ride(0, false));
        FerryTickets z = new FerryTickets();
        Expect.read(z, "nstun:3>1/2;m0=1;p0o=0;w0o+3");
        Expect.refused("22: a hole is closed", z, 10, 2, () -> z.ride(0, false));
    }

    private static void hinders() {
        FerryTickets x = new FerryTickets();
        Expect.index("23: no ticket", () -> x.hinders(0, false));
        Expect.read(x, "nbadu:0>3/2");
        Expect.index("23: below", () -> x.hinders(-1, true));
        hinder(x, 5, 5);
        Expect.read(x, "p0o=0;p0r=0");
        hinder(x, 0, 7);
        Expect.read(x, "g0o");
        hinder(x, 6, 0);
        Expect.read(x, "d;d");
        hinder(x, 6, 0);
        Expect.read(x, "c3");
        hinder(x, 6, 9);
        Expect.read(x, "o3;w0r+4");
        hinder(x, 6, 10);
        Expect.read(x, "d");
        hinder(x, 6, 8);
        Expect.read(x, "l0o");
        hinder(x, 4, 4);
        Expect.state("23: nothing is refused by asking", () -> x.refusal(false));
    }

    private static void hinder(FerryTickets x, int dueOut, int dueReturn) {
        Expect.same("23: out", dueOut, x.hinders(0, false));
        Expect.same("23: return", dueReturn, x.hinders(0, true));
    }

    private static void day() {
        FerryTickets x = new FerryTickets();
        for (int day = 1; day < 20; day++) {
            Expect.same("24: day", day, x.day());
            Expect.same("24: account", day, x.account(2));
        }
        x.undo();
        Expect.same("24: undone", 18, x.account(2));
    }

    private static void daysLeft() {
        FerryTickets x = new FerryTickets();
        Expect.index("25: no ticket", () -> x.daysLeft(0));
        Expect.read(x, "nbadu:0>3/2;p0o=0;d");
        Expect.index("25: below", () -> x.daysLeft(-1));
        Expect.element("25: not ridden", () -> x.daysLeft(0));
        x.ride(0, false);
        int[] due = {2, 1, 0, -1, -1, -1};
        for (int later = 0; later < due.length; later++) {
            Expect.same("25: days later " + later, due[later], x.daysLeft(0));
            x.day();
        }
    }

    private static void wordsAndSharing() {
        FerryTickets x = new FerryTickets();
        Expect.same("26: none", 0, x.words());
        Expect.index("27: none", () -> x.sharing(0));
        Expect.read(x, "nba:0>1/1;nbad:0>1/1;nba:1>2/3;nbe:0>1/1;nba:0>1/1");
        Expect.same("26: words", 3, x.words());
        int[] due = {3, 1, 3, 1, 3};
        for (int ticket = 0; ticket < 5; ticket++) {
            Expect.same("27: ticket " + ticket, due[ticket], x.sharing(ticket));
        }
        Expect.index("27: above", () -> x.sharing(5));
        Expect.index("27: below", () -> x.sharing(-1));
        x.punch(0, false, 0);
        x.wet(0, false, 9);
        Expect.same("26: water is nothing to it", 3, x.words());
        x.throwAway(3);
        Expect.same("26: one less", 2, x.words());
    }

    private static void often() {
        FerryTickets x = new FerryTickets();
        Expect.same("28: none", 0, x.often('a'));
        Expect.read(x, "nbanana:0>1/1;nban:0>1/1;nbe:0>1/1");
        x.letter('b');
        Expect.same("28: a", 4, x.often('a'));
        Expect.same("28: n", 3, x.often('n'));
        Expect.same("28: b", 3, x.often('b'));
        Expect.same("28: e", 1, x.often('e'));
        Expect.same("28: t", 0, x.often('t'));
        Expect.argument("28: z", () -> x.often('z'));
        Expect.argument("28: ?", () -> x.often('?'));
        Expect.argument("28: A", () -> x.often('A'));
    }

    private static void ranked() {
        FerryTickets x = new FerryTickets();
        Expect.element("29: none", () -> x.ranked(0, 0));
        Expect.argument("29: measure 3", () -> x.ranked(3, 9));
        Expect.argument("29: measure -1", () -> x.ranked(-1, 0));
        Expect.read(x, "nba:0>1/1;nbad:0>1/1;nlu:0>1/1;nbadu:0>1/1");
        order(x, 0, 0, 1, 2, 3);
        order(x, 1, 0, 1, 2, 3);
        order(x, 2, 3, 1, 0, 2);
        Expect.read(x, "t0;t1;w0r+5;w1o+3;w1r+4;w2o+4");
        order(x, 0, 1, 2, 0, 3);
        Expect.read(x, "p3o=0;p3r=0;p2o=0;p0r=0;p1o=0;p1r=0");
        order(x, 1, 3, 2, 0, 1);
        Expect.element("29: place 4", () -> x.ranked(0, 4));
        Expect.element("29: place -1", () -> x.ranked(0, -1));
    }

    private static void order(FerryTickets x, int measure, int... due) {
        for (int place = 0; place < due.length; place++) {
            Expect.same("29: measure " + measure + " place " + place, due[place], x.ranked(measure, place));
        }
    }

    private static void isRight() {
        FerryTickets x = new FerryTickets();
        Expect.same("30: none", true, x.isRight());
        Expect.read(x, "nba:0>1/1;p0o=0;l0r");
        Expect.read(x, "nbu:0>1/1;p1o=0;p1r=0;t1;l1r;w1o+4");
        Expect.same("30: all sorts", true, x.isRight());
    }
}
