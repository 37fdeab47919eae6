/** Promises 31 to 37. */
public final class LinesTest {
    public static void main(String[] args) {
        line();
        holeLine();
        character();
        refusal();
        account();
        meanWet();
        readShare();
        Expect.end("LinesTest");
    }

    private static void line() {
        FerryTickets x = new FerryTickets();
        Expect.index("31: no ticket", () -> x.line(0));
        Expect.read(x, "nbada:0>3/2");
        Expect.same("31: fresh", ".-.:0>3", Expect.line(x, 0));
        Expect.index("31: above", () -> x.line(1));
        Expect.index("31: below", () -> x.line(-1));
        Expect.same("31: a line that failed leaves the line", ".-.:0>3", Expect.written(x, 7));
        x.punch(0, false, 0);
        Expect.same("31: punched out", "bada-.:0>3", Expect.line(x, 0));
        x.mood(1, 1);
        x.punch(0, true, 1);
        Expect.same("31: both", "bada-bada:0>3", Expect.line(x, 0));
        x.wet(0, true, 3);
        Expect.same("31: wet", "bada-budu:0>3", Expect.line(x, 0));
        x.lose(0, true);
        Expect.same("31: lost", "_-_:0>3", Expect.line(x, 0));
        x.tear(0);
        Expect.same("31: torn", "_/_:0>3", Expect.line(x, 0));
        x.find(0, true);
        Expect.same("31: found", "_/budu:0>3", Expect.line(x, 0));
        x.wet(0, true, 3);
        Expect.same("31: no hole", "_/b?d?:0>3", Expect.line(x, 0));
        x.clear();
        Expect.read(x, "nbandit:4>1/9;p0o=0;p0r=0");
        Expect.same("31: the longest", "bandit-bandit:4>1", Expect.line(x, 0));
        Expect.same("31: length", 17, x.line(0));
        x.clear();
        Expect.read(x, "nba:0>1/1;l0o");
        Expect.same("31: lost and not punched", "_-_:0>1", Expect.line(x, 0));
    }

    private static void holeLine() {
        FerryTickets x = new FerryTickets();
        Expect.index("32: no ticket", () -> x.holeLine(0, true));
        Expect.read(x, "nbeda:0>3/2");
        Expect.index("32: below", () -> x.holeLine(-1, true));
        Expect.element("32: not punched", () -> x.holeLine(0, false));
        x.line(0);
        Expect.element("32: not punched", () -> x.holeLine(0, true));
        Expect.same("32: the line stays", ".-.:0>3", Expect.written(x, 7));
        x.punch(0, false, 0);
        x.mood(0, 4);
        x.punch(0, true, 0);
        Expect.same("32: out", "b2d1", Expect.holeLine(x, 0, false));
        Expect.same("32: return", "b1d5", Expect.holeLine(x, 0, true));
        x.lose(0, false);
        x.wet(0, false, 4);
        Expect.same("32: wet and lost", "b1d0", Expect.holeLine(x, 0, false));
        Expect.same("32: length", 4, x.holeLine(0, true));
    }

    private static void character() {
        FerryTickets x = new FerryTickets();
        Expect.index("33: empty at first", () -> x.character(0));
        Expect.index("33: below", () -> x.character(-1));
        Expect.read(x, "nbeda:0>3/2;p0o=0");
        x.line(0);
        Expect.same("33: last", '3', x.character(9));
        Expect.index("33: behind", () -> x.character(10));
        x.holeLine(0, false);
        Expect.same("33: in place of the line before", 'b', x.character(0));
        Expect.index("33: shorter then", () -> x.character(4));
        x.throwAway(0);
        Expect.same("33: the line stays", '2', x.character(1));
        x.undo();
        Expect.same("33: undo leaves it", '1', x.character(3));
    }

    private static void refusal() {
        FerryTickets x = new FerryTickets();
        Expect.state("34: none", () -> x.refusal(true));
        Expect.outcome(() -> x.pier(9, true));
        Expect.state("34: other exceptions are none", () -> x.refusal(false));
        x.mood(2, 3);
        Expect.refused("34: mood", x, 3, 3, () -> x.mood(2, 3));
        Expect.refused("34: draft", x, 11, 0, () -> x.unletter());
        Expect.outcome(() -> x.mood(9, 3));
        x.day();
        x.undo();
        x.snapshot();
        x.restore();
        x.clear();
        Expect.same("34: it stays", 11, x.refusal(false));
    }

    private static void account() {
        FerryTickets x = new FerryTickets();
        Expect.argument("35: 14", () -> x.account(14));
        Expect.argument("35: -1", () -> x.account(-1));
        Expect.read(x, "nbeda:0>3/2;nba:0>1/1;nbu:0>1/1;p0o=0;p0r=0;t0");
        Expect.read(x, "p1o=0;g0o;g0r;g1o;d;d;c4;x1;l0r;t1;w1o+7");
        x.letter('k');
        x.append('d');
        int[] due = {2, 1, 2, 4, 2, 1, 2, 6, 3, 2, 1, 7, 1, 3};
        for (int what = 0; what < 14; what++) {
            Expect.same("35: account " + what, due[what], x.account(what));
        }
        x.punch(1, false, 0);
        Expect.same("35: holes left", 9, x.account(7));
        Expect.same("35: holes so far", 12, x.account(11));
    }

    private static void meanWet() {
        FerryTickets x = new FerryTickets();
        Expect.arithmetic("36: no tickets", () -> x.meanWet());
        Expect.read(x, "nba:0>1/1");
        Expect.same("36: dry", 0.0, x.meanWet());
        Expect.read(x, "nba:0>1/1;nba:0>1/1;w1o+5");
        Expect.same("36: mean", 7.0 / 6.0, x.meanWet());
        x.clear();
        Expect.arithmetic("36: none again", () -> x.meanWet());
    }

    private static void readShare() {
        FerryTickets x = new FerryTickets();
        Expect.arithmetic("37: no tickets", () -> x.readShare());
        Expect.read(x, "nba:0>1/1;nbe:0>1/1");
        Expect.arithmetic("37: none is punched", () -> x.readShare());
        x.punch(0, false, 0);
        Expect.same("37: one", 1f, x.readShare());
        x.punch(1, false, 0);
        x.punch(1, true, 0);
        x.wet(1, true, 4);
        Expect.same("37: two of three", 2f / 3f, x.readShare());
        Expect.read(x, "nba:0>1/1;p2o=0;p2r=0");
        Expect.same("37: return halves too", 4f / 5f, x.readShare());
        x.throwAway(2);
        x.lose(1, true);
        x.wet(0, false, 3);
        Expect.same("37: one of three", 1f / 3f, x.readShare());
        Expect.read(x, "x0;w0o+9");
        Expect.same("37: none", 0f, x.readShare());
    }
}
