import java.util.function.Function;
import java.util.function.Supplier;

/** The boundary cases of promises 42 to 44, and of what the terms say of changes and exceptions. */
public final class UndoEdgesTest {
    public static void main(String[] args) throws IllegalAccessException {
        Edges.run(UndoEdgesTest.class);
    }

    // ---- 42: undo

    static void p42_nothing() {
        Edges.unchanged(Edges.STATE, FerryTickets::new, x -> x.undo());
    }

    static void p42_nothingMore() {
        FerryTickets x = new FerryTickets();
        x.day();
        Expect.same("left", 0, x.undo());
        Expect.state("more", () -> x.undo());
        Expect.same("day", 0, x.account(2));
    }

    static void p42_eighthChange() {
        FerryTickets x = new FerryTickets();
        Edges.days(x, 8);
        for (int left = 7; left >= 0; left--) {
            Expect.same("left", left, x.undo());
            Expect.same("day", left, x.account(2));
        }
        Expect.state("more", () -> x.undo());
    }

    static void p42_ninthChange() {
        FerryTickets x = new FerryTickets();
        Edges.days(x, 9);
        Expect.same("changes", 8, x.account(13));
        for (int left = 7; left >= 0; left--) {
            Expect.same("left", left, x.undo());
            Expect.same("day", left + 1, x.account(2));
        }
        Expect.state("the first is not undone", () -> x.undo());
    }

    static void p42_longAfterTheEighth() {
        FerryTickets x = new FerryTickets();
        Edges.days(x, 100);
        Edges.undone(x, 8);
        Expect.same("day", 92, x.account(2));
        Expect.state("more", () -> x.undo());
    }

    static void p42_changesAfterUndo() {
        FerryTickets x = new FerryTickets();
        Edges.days(x, 10);
        Edges.undone(x, 3);
        Expect.same("5 and one", 5, x.account(13));
        x.letter('b');
        Expect.same("one more", 6, x.account(13));
        Edges.days(x, 3);
        Expect.same("8 again", 8, x.account(13));
        Edges.undone(x, 4);
        Expect.same("letters", 0, x.account(1));
        Expect.same("day", 7, x.account(2));
        Edges.undone(x, 4);
        Expect.same("day", 3, x.account(2));
        Expect.state("more", () -> x.undo());
    }

    static void p42_undoIsNoChange() {
        FerryTickets x = new FerryTickets();
        Edges.days(x, 2);
        Expect.same("left", 1, x.undo());
        Expect.same("left", 0, x.undo());
        Expect.same("day", 0, x.account(2));
    }

    /** The call is one change, and undone it leaves nothing. */
    private static void change(Supplier<FerryTickets> made, Function<FerryTickets, Object> call) {
        Supplier<FerryTickets> changed = () -> {
            FerryTickets x = made.get();
            call.apply(x);
            return x;
        };
        int before = made.get().account(13);
        Expect.same("changes", Math.min(8, before + 1), changed.get().account(13));
        Expect.same("changed", false, Edges.now(made).equals(Edges.now(changed)));
        Expect.same("left", Math.min(7, before), changed.get().undo());
        Expect.same("undone", Edges.now(made), Edges.now(() -> Edges.undone(changed.get(), 1)));
        Expect.same("the snapshot stays", Edges.saved(made), Edges.saved(() -> Edges.undone(changed.get(), 1)));
    }

    /** Few changes can be undone in it, and each method can make one. */
    private static FerryTickets few() {
        FerryTickets x = Edges.office("nbadu:0>3/2;nbide:4>1/1;m2=4;c2;d;p0o=0;l1o");
        Edges.spell(x, "ko");
        x.snapshot();
        return x;
    }

    private static void changes(Function<FerryTickets, Object> call) {
        change(UndoEdgesTest::few, call);
        change(() -> {
            FerryTickets x = few();
            Edges.days(x, 8);
            return x;
        }, call);
    }

    static void p42_letter() {
        changes(x -> x.letter('b'));
    }

    static void p42_unletter() {
        changes(x -> x.unletter());
    }

    static void p42_print() {
        changes(x -> x.print(0, 1, 1));
    }

    static void p42_throwAway() {
        changes(x -> x.throwAway(0));
        changes(x -> x.throwAway(1));
    }

    static void p42_mood() {
        changes(x -> x.mood(2, 0));
    }

    static void p42_pier() {
        changes(x -> x.pier(2, true));
        changes(x -> x.pier(0, false));
    }

    static void p42_punch() {
        changes(x -> x.punch(0, true, 2));
    }

    static void p42_wet() {
        changes(x -> x.wet(0, false, 1));
        changes(x -> x.wet(0, true, 9));
    }

    static void p42_wetByNothingMore() {
        // A half that is wet by 9 gets no wetter, but the call is a change all the same.
        FerryTickets x = Edges.office("nba:0>1/1;t0;w0o+9");
        x.wet(0, false, 9);
        Expect.same("changes", 2, x.account(13));
        Expect.same("left", 1, x.undo());
        Expect.same("wet", 9, x.halfOf(0, false, 2));
    }

    static void p42_tear() {
        changes(x -> x.tear(0));
    }

    static void p42_lose() {
        changes(x -> x.lose(0, true));
    }

    static void p42_find() {
        changes(x -> x.find(1, true));
    }

    static void p42_ride() {
        changes(x -> x.ride(0, false));
    }

    static void p42_day() {
        changes(x -> x.day());
    }

    static void p42_readIsOneChange() {
        changes(x -> Expect.read(x, "d;d;c0;x0;nba:0>1/1"));
    }

    static void p42_readThatEndsAsItBegan() {
        FerryTickets x = new FerryTickets();
        Expect.read(x, "c0;o0");
        Expect.same("changes", 1, x.account(13));
        Expect.same("left", 0, x.undo());
    }

    private static void noChange(Function<FerryTickets, Object> call) {
        FerryTickets x = few();
        int before = x.account(13);
        Expect.outcome(() -> call.apply(x));
        Expect.same("changes", before, x.account(13));
        x.undo();
        Expect.same("the change before is undone", 1, x.account(1));
    }

    static void p42_callsThatAreNoChange() {
        noChange(x -> x.append('d'));
        noChange(x -> x.snapshot());
        noChange(x -> x.line(0));
        noChange(x -> x.holeLine(0, false));
        noChange(x -> x.hinders(0, true));
        noChange(x -> x.would(0, false, 9));
        noChange(x -> x.likely(0, false));
        noChange(x -> x.moodFor(0, false));
    }

    static void p42_callsThatThrowAreNoChange() {
        noChange(x -> x.letter('z'));
        noChange(x -> x.print(0, 0, 1));
        noChange(x -> x.throwAway(2));
        noChange(x -> x.mood(0, 0));
        noChange(x -> x.pier(2, false));
        noChange(x -> x.punch(0, false, 0));
        noChange(x -> x.wet(0, false, 0));
        noChange(x -> x.tear(2));
        noChange(x -> x.lose(1, true));
        noChange(x -> x.find(0, false));
        noChange(x -> x.ride(0, true));
        noChange(x -> Expect.read(x, "z"));
        noChange(x -> Expect.read(x, "d;x2"));
    }

    static void p42_besideStays() {
        Edges.besideStays(x -> x.undo());
    }

    static void p42_theLineOfWhatIsUndone() {
        FerryTickets x = Edges.withTickets(1);
        x.line(0);
        x.undo();
        Expect.same("line", ".-.:0>1", Edges.text(x));
    }

    static void p42_theRefusalOfWhatIsUndone() {
        FerryTickets x = Edges.office("m0=4");
        Expect.refused("mood", x, 3, 4, () -> x.mood(0, 4));
        x.undo();
        Expect.same("refusal", "3 4", Edges.refusal(x));
    }

    static void p42_theReadOfWhatIsUndone() {
        FerryTickets x = Edges.office("d");
        Expect.outcome(() -> Expect.read(x, "d;z"));
        Expect.outcome(() -> Expect.read(x, "d;d;x0"));
        x.undo();
        Expect.same("faults", "2 2", Edges.faults(x));
        Expect.same("buffer", 0, x.account(12));
    }

    static void p42_onlyAfterClear() {
        FerryTickets x = new FerryTickets();
        Edges.days(x, 5);
        x.clear();
        Expect.state("undo", () -> x.undo());
        x.day();
        Expect.same("left", 0, x.undo());
    }

    // ---- 43: snapshot

    static void p43_ofNothing() {
        FerryTickets x = new FerryTickets();
        Expect.same("tickets", 0, x.snapshot());
        Edges.spell(x, "ba");
        x.print(0, 1, 1);
        Expect.same("restored", 0, x.restore());
        Expect.same("as new", Edges.now(FerryTickets::new), Edges.now(() -> emptyRestored()));
    }

    private static FerryTickets emptyRestored() {
        FerryTickets x = new FerryTickets();
        x.snapshot();
        Expect.read(x, "nba:0>1/1;p0o=0;g0o;m1=2;c3;d");
        x.letter('k');
        x.restore();
        return x;
    }

    static void p43_ofEight() {
        Expect.same("tickets", 8, Edges.withTickets(8).snapshot());
    }

    static void p43_replacesAnEarlierOne() {
        FerryTickets x = Edges.withTickets(3);
        x.snapshot();
        x.throwAway(0);
        Expect.same("tickets", 2, x.snapshot());
        x.throwAway(0);
        Expect.same("restored", 2, x.restore());
        x.clear();
        x.snapshot();
        Expect.print(x, "ba", 0, 1, 1);
        Expect.same("restored", 0, x.restore());
    }

    static void p43_noChange() {
        FerryTickets x = Edges.withTickets(1);
        x.snapshot();
        Expect.same("changes", 3, x.account(13));
        Expect.same("left", 2, x.undo());
        Expect.same("tickets", 0, x.account(0));
    }

    static void p43_notUndone() {
        FerryTickets x = Edges.withTickets(1);
        x.snapshot();
        x.undo();
        Expect.same("restored", 1, x.restore());
    }

    static void p43_laterChangesDoNotReachIt() {
        Supplier<FerryTickets> made = UndoEdgesTest::few;
        Supplier<FerryTickets> after = () -> {
            FerryTickets x = few();
            Expect.read(x, "g0o;p0r=2;w0o+9;f1o;l0r;m0=3;c0;o2;d");
            Expect.read(x, "t1;x0;nkolibu:0>1/9");
            x.letter('b');
            x.restore();
            return x;
        };
        Expect.same("restored", Edges.now(made), Edges.now(after));
    }

    static void p43_besideStays() {
        Edges.besideStays(x -> x.snapshot());
    }

    // ---- 44: restore

    static void p44_noSnapshot() {
        Edges.unchanged(Edges.STATE, FerryTickets::new, x -> x.restore());
        Edges.unchanged(Edges.STATE, () -> Edges.withTickets(2), x -> x.restore());
    }

    static void p44_nothingCanBeUndone() {
        FerryTickets x = Edges.withTickets(3);
        x.snapshot();
        x.day();
        x.restore();
        Expect.same("changes", 0, x.account(13));
        Expect.state("undo", () -> x.undo());
    }

    static void p44_isNoChange() {
        FerryTickets x = new FerryTickets();
        x.snapshot();
        x.restore();
        Expect.same("changes", 0, x.account(13));
        x.day();
        Expect.same("left", 0, x.undo());
        Expect.state("more", () -> x.undo());
    }

    static void p44_staysAvailable() {
        FerryTickets x = Edges.withTickets(2);
        x.snapshot();
        for (int i = 0; i < 3; i++) {
            x.throwAway(0);
            x.wet(0, false, 9);
            Expect.same("restored", 2, x.restore());
            Expect.same("dry", 0.0, x.meanWet());
        }
    }

    static void p44_afterClear() {
        FerryTickets x = Edges.withTickets(8);
        x.snapshot();
        x.clear();
        Expect.same("restored", 8, x.restore());
        Expect.same("printed", 8, x.account(8));
    }

    static void p44_toFewerAndToMoreTickets() {
        FerryTickets x = Edges.withTickets(1);
        x.snapshot();
        Expect.print(x, "du", 0, 1, 1);
        Expect.same("fewer", 1, x.restore());
        Expect.index("the later one", () -> x.wordAt(1, 0));
        x.throwAway(0);
        Expect.same("more", 1, x.restore());
    }

    static void p44_theDraft() {
        FerryTickets x = new FerryTickets();
        Edges.spell(x, "banan");
        x.snapshot();
        x.letter('a');
        x.print(0, 1, 1);
        x.restore();
        Expect.same("letters", 5, x.account(1));
        Expect.same("sixth", 6, x.letter('e'));
        x.print(0, 1, 1);
        Expect.same("last", 'e', x.wordAt(0, 5));
    }

    static void p44_besideStays() {
        Edges.besideStays(x -> x.restore());
    }

    static void p44_noRefusalWithout() {
        FerryTickets x = new FerryTickets();
        Expect.state("restore", () -> x.restore());
        Expect.state("refusal", () -> x.refusal(false));
    }
}
