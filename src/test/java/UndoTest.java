import java.util.function.Function;

/** Promises 42 to 44. */
public final class UndoTest {
    public static void main(String[] args) {
        undoEach();
        onlyEight();
        notUndone();
        snapshot();
        Expect.end("UndoTest");
    }

    private static void undoEach() {
        Expect.state("42: none", () -> new FerryTickets().undo());
        undone("letter", x -> x.letter('k'));
        undone("unletter", x -> x.unletter());
        undone("print", x -> x.print(1, 2, 3));
        undone("throwAway", x -> x.throwAway(0));
        undone("pier", x -> x.pier(4, false));
        undone("punch", x -> x.punch(0, true, 1));
        undone("wet", x -> x.wet(0, true, 7));
        undone("tear", x -> x.tear(1));
        undone("lose", x -> x.lose(0, false));
        undone("find", x -> x.find(1, false));
        undone("ride", x -> x.ride(0, false));
        undone("day", x -> x.day());
        undone("read", x -> Expect.read(x, "d;x0;m2=1"));
        FerryTickets x = undoable();
        x.mood(0, 3);
        x.undo();
        x.mood(0, 2);
        x.undo();
        Expect.same("42: mood of old", 0, x.mood(0, 1));
        x.mood(0, 3);
        x.undo();
        Expect.refused("42: mood of 1 again", x, 3, 1, () -> x.mood(0, 1));
        x.print(0, 1, 1);
        x.undo();
        x.letter('t');
        x.print(0, 1, 1);
        Expect.same("42: the draft of old", 't', x.wordAt(2, 2));
    }

    private static FerryTickets undoable() {
        FerryTickets x = new FerryTickets();
        Expect.read(x, "nbadu:0>1/1;nbe:1>2/3;p0o=0;m1=3;l1r");
        x.letter('a');
        x.letter('b');
        x.day();
        return x;
    }

    private static void undone(String name, Function<FerryTickets, Object> change) {
        FerryTickets x = undoable();
        String before = Expect.digest(x);
        int changes = x.account(13);
        change.apply(x);
        Expect.same("42: " + name + " is a change", changes + 1, x.account(13));
        Expect.same("42: " + name + " changes", false, before.equals(Expect.digest(x)));
        Expect.same("42: " + name + " leaves", changes, x.undo());
        Expect.same("42: " + name + " undone", before, Expect.digest(x));
    }

    private static void onlyEight() {
        FerryTickets x = new FerryTickets();
        for (int day = 1; day <= 20; day++) {
            x.day();
            Expect.same("42: changes", Math.min(8, day), x.account(13));
        }
        for (int left = 7; left >= 0; left--) {
            Expect.same("42: left", left, x.undo());
            Expect.same("42: day", 12 + left, x.account(2));
        }
        Expect.state("42: no more", () -> x.undo());
        x.day();
        Expect.same("42: one again", 0, x.undo());
        Expect.same("42: day 12", 12, x.account(2));
    }

    private static void notUndone() {
        FerryTickets x = new FerryTickets();
        Expect.read(x, "nba:0>1/1");
        x.line(0);
        Expect.outcome(() -> x.pier(0, true));
        Expect.outcome(() -> Expect.read(x, "?"));
        Expect.outcome(() -> Expect.read(x, "d;x3"));
        x.append('d');
        Expect.same("42: only changes", 1, x.account(13));
        x.snapshot();
        Expect.same("43: no change", 1, x.account(13));
        x.undo();
        Expect.same("42: the line", '.', x.character(0));
        Expect.same("42: the buffer", 1, x.account(12));
        Expect.same("42: the refusal", 3, x.refusal(false));
        Expect.same("42: the error position", 0, x.errorPosition());
        Expect.same("42: the refused item", 1, x.refusedItem());
        x.restore();
        Expect.same("44: the buffer", 1, x.account(12));
        Expect.same("44: the line", '1', x.character(6));
        Expect.same("44: the refusal", 1, x.refusal(true));
    }

    private static void snapshot() {
        FerryTickets x = new FerryTickets();
        Expect.state("44: none", () -> x.restore());
        Expect.read(x, "nba:0>1/1;nbe:1>2/3;p0o=0;m1=3;d;c2;g0o;t1");
        x.letter('a');
        Expect.same("43: tickets", 2, x.snapshot());
        String before = Expect.digest(x);
        Expect.read(x, "x0;x0;m1=0;d;d;o2");
        x.unletter();
        Expect.same("44: tickets", 2, x.restore());
        Expect.same("44: restored", before, Expect.digest(x));
        Expect.same("44: nothing can be undone", 0, x.account(13));
        Expect.state("44: undo", () -> x.undo());
        Expect.same("44: mood", 3, x.mood(1, 1));
        x.undo();
        x.wet(0, true, 9);
        Expect.same("44: again", 2, x.restore());
        Expect.same("44: restored again", before, Expect.digest(x));
        x.throwAway(1);
        Expect.same("43: a later one", 1, x.snapshot());
        x.throwAway(0);
        Expect.same("44: the later one", 1, x.restore());
        x.clear();
        Expect.same("43: of nothing", 0, x.snapshot());
        x.letter('b');
        Expect.same("44: nothing", 0, x.restore());
        Expect.same("44: no draft", 0, x.account(1));
    }
}
