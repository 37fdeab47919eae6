/** The boundary cases of promises 31 to 37, and of what the terms say of refusals. */
public final class LineEdgesTest {
    public static void main(String[] args) throws IllegalAccessException {
        Edges.run(LineEdgesTest.class);
    }

    // ---- 31: line

    static void p31_noSuchTicket() {
        Edges.outside(Edges.INDEX, 0, ticket -> new FerryTickets().line(ticket));
        Edges.outside(Edges.INDEX, 8, ticket -> Edges.withTickets(8).line(ticket));
        Edges.unchanged(Edges.INDEX, Edges::rich, x -> x.line(3));
    }

    private static void line(String due, String... texts) {
        FerryTickets x = Edges.office(texts);
        Expect.same("length", due.length(), x.line(0));
        Expect.same("line", due, Edges.text(x));
    }

    static void p31_shortest() {
        line(".-.:0>4", "nba:0>4/1");
    }

    static void p31_longest() {
        line("stride-stride:4>0", "nstride:4>0/1;p0o=0;p0r=0");
        line("stride/stride:4>0", "nstride:4>0/1;p0o=0;p0r=0;t0");
    }

    static void p31_readAndUnreadJoined() {
        line("bada-b?d?:0>3", "nbada:0>3/1;p0o=0;p0r=0;w0r+3");
    }

    static void p31_oneNotPunched() {
        line("ba-.:0>1", "nba:0>1/1;p0o=0");
        line(".-ba:0>1", "nba:0>1/1;p0r=0");
    }

    static void p31_lost() {
        line("_-_:0>1", "nba:0>1/1;p0o=0;p0r=0;l0o");
        line("ba/_:0>1", "nba:0>1/1;p0o=0;p0r=0;t0;l0r");
        line("_/ba:0>1", "nba:0>1/1;p0o=0;p0r=0;t0;l0o");
    }

    static void p31_lostAndNotPunched() {
        line("_-_:0>1", "nba:0>1/1;l0o");
        line("_/.:0>1", "nba:0>1/1;t0;l0o");
    }

    static void p31_noHoleLeft() {
        line("b?/b?:0>1", "nba:0>1/1;p0o=0;p0r=0;w0o+9");
    }

    static void p31_tornByWater() {
        line("./.:0>1", "nba:0>1/1;w0r+6");
        line(".-.:0>1", "nba:0>1/1;w0r+5");
    }

    static void p31_closedPiersAreNoMatter() {
        line(".-.:2>3", "nba:2>3/1;c2;c3");
    }

    static void p31_inPlaceOfALongerLine() {
        FerryTickets x = Edges.office("nstride:4>0/1;nba:0>1/1;p0o=0;p0r=0");
        x.line(0);
        Expect.same("length", 7, x.line(1));
        Expect.same("line", ".-.:0>1", Edges.text(x));
    }

    static void p31_failedLeavesTheLine() {
        FerryTickets x = Edges.withTickets(1);
        x.line(0);
        Expect.index("line", () -> x.line(1));
        Expect.same("line", ".-.:0>1", Edges.text(x));
    }

    // ---- 32: holeLine

    static void p32_noSuchTicket() {
        Edges.outside(Edges.INDEX, 0, ticket -> new FerryTickets().holeLine(ticket, false));
        Edges.outside(Edges.INDEX, 1, ticket -> Edges.punched("ba", true, 0).holeLine(ticket, true));
        Edges.unchanged(Edges.INDEX, Edges::rich, x -> x.holeLine(3, true));
    }

    static void p32_notPunched() {
        Edges.unchanged(Edges.ELEMENT, () -> Edges.punched("ba", true, 0), x -> x.holeLine(0, false));
        Edges.unchanged(Edges.ELEMENT, () -> Edges.punched("ba", false, 0), x -> x.holeLine(0, true));
        Edges.unchanged(Edges.ELEMENT, Edges::rich, x -> x.holeLine(2, true));
    }

    static void p32_shortestAndLongest() {
        FerryTickets x = Edges.punched("ab", false, 0);
        Expect.same("length", 2, x.holeLine(0, false));
        Expect.same("line", "1b", Edges.text(x));
        FerryTickets y = Edges.punched("stride", true, 1);
        Expect.same("length", 6, y.holeLine(0, true));
        Expect.same("line", "str4d3", Edges.text(y));
    }

    static void p32_noneToFiveHoles() {
        Expect.same("dry", "12345", Expect.holeLine(Edges.punched("aeiou", false, 0), 0, false));
        Expect.same("wet by 2", "12345", Expect.holeLine(Edges.washed("aeiou", false, 0, 2), 0, false));
        Expect.same("wet by 3", "01234", Expect.holeLine(Edges.washed("aeiou", false, 0, 3), 0, false));
        Expect.same("wet by 9", "00012", Expect.holeLine(Edges.washed("aeiou", false, 0, 9), 0, false));
    }

    static void p32_lostAllTheSame() {
        FerryTickets x = Edges.punched("ba", false, 2);
        x.lose(0, false);
        Expect.same("line", "b3", Expect.holeLine(x, 0, false));
    }

    static void p32_inPlaceOfALongerLine() {
        FerryTickets x = Edges.punched("ba", false, 2);
        x.line(0);
        Expect.same("length", 2, x.holeLine(0, false));
        Expect.same("line", "b3", Edges.text(x));
    }

    // ---- 33: character

    static void p33_emptyAtFirst() {
        Edges.outside(Edges.INDEX, 0, index -> new FerryTickets().character(index));
    }

    private static FerryTickets lined() {
        FerryTickets x = Edges.office("nstride:4>0/1;p0o=0;p0r=0");
        x.line(0);
        return x;
    }

    static void p33_noSuchIndex() {
        Edges.outside(Edges.INDEX, 17, index -> lined().character(index));
        Edges.unchanged(Edges.INDEX, LineEdgesTest::lined, x -> x.character(17));
        Edges.unchanged(Edges.INDEX, LineEdgesTest::lined, x -> x.character(-1));
    }

    static void p33_firstAndLast() {
        Expect.same("first", 's', lined().character(0));
        Expect.same("last", '0', lined().character(16));
    }

    static void p33_behindAShorterLine() {
        FerryTickets x = lined();
        x.holeLine(0, false);
        Edges.outside(Edges.INDEX, 6, index -> x.character(index));
    }

    static void p33_staysAsTheTicketGoes() {
        FerryTickets x = lined();
        x.wet(0, false, 9);
        x.throwAway(0);
        Expect.same("line", "stride-stride:4>0", Edges.text(x));
    }

    static void p33_noChangeWrites() {
        Edges.besideStays(x -> x.unletter());
        Edges.besideStays(x -> x.letter('b'));
        Edges.besideStays(x -> x.print(0, 1, 1));
        Edges.besideStays(x -> x.throwAway(0));
        Edges.besideStays(x -> x.mood(0, 1));
        Edges.besideStays(x -> x.pier(0, false));
        Edges.besideStays(x -> x.punch(1, true, 0));
        Edges.besideStays(x -> x.wet(0, false, 9));
        Edges.besideStays(x -> x.tear(0));
        Edges.besideStays(x -> x.lose(0, true));
        Edges.besideStays(x -> x.find(2, true));
        Edges.besideStays(x -> x.ride(0, true));
        Edges.besideStays(x -> x.day());
    }

    // ---- 34: refusal

    static void p34_nothingRefused() {
        Edges.unchanged(Edges.STATE, FerryTickets::new, x -> x.refusal(false));
        Edges.unchanged(Edges.STATE, FerryTickets::new, x -> x.refusal(true));
    }

    static void p34_otherExceptionsAreNoRefusals() {
        FerryTickets x = new FerryTickets();
        Expect.argument("letter", () -> x.letter('z'));
        Expect.index("ride", () -> x.ride(0, false));
        Expect.index("print", () -> x.print(9, 0, 1));
        Expect.state("undo", () -> x.undo());
        Expect.argument("read", () -> x.read());
        Expect.same("order", Edges.REFUSED, Expect.outcome(() -> Expect.read(x, "x0")));
        Expect.state("reason", () -> x.refusal(false));
        Expect.state("detail", () -> x.refusal(true));
    }

    static void p34_otherExceptionsLeaveTheLatest() {
        FerryTickets x = Edges.withTickets(4);
        Expect.refused("unletter", x, 11, 4, () -> x.unletter());
        Expect.argument("letter", () -> x.letter('z'));
        Expect.index("ride", () -> x.ride(9, false));
        Expect.element("moodFor", () -> x.moodFor(0, false));
        Expect.same("refusal", "11 4", Edges.refusal(x));
    }

    static void p34_theLatest() {
        FerryTickets x = Edges.withTickets(1);
        Expect.refused("first", x, 11, 1, () -> x.unletter());
        Expect.refused("second", x, 5, 1, () -> x.ride(0, true));
        Expect.refused("third", x, 3, 0, () -> x.mood(0, 0));
    }

    static void p34_successLeavesIt() {
        FerryTickets x = Edges.withTickets(1);
        Expect.refused("ride", x, 5, 1, () -> x.ride(0, true));
        x.punch(0, true, 0);
        x.punch(0, false, 0);
        x.ride(0, false);
        x.ride(0, true);
        Expect.same("refusal", "5 1", Edges.refusal(x));
    }

    static void p34_askedTwice() {
        FerryTickets x = new FerryTickets();
        Expect.refused("mood", x, 3, 0, () -> x.mood(0, 0));
        Expect.same("again", "3 0", Edges.refusal(x));
    }

    // ---- 35: account

    static void p35_whatOutOfRange() {
        Edges.outside(Edges.ARGUMENT, 14, what -> new FerryTickets().account(what));
        Edges.unchanged(Edges.ARGUMENT, Edges::rich, x -> x.account(14));
        Edges.unchanged(Edges.ARGUMENT, Edges::rich, x -> x.account(-1));
    }

    static void p35_eightTickets() {
        Expect.same("tickets", 8, Edges.withTickets(8).account(0));
    }

    static void p35_sixLetters() {
        FerryTickets x = new FerryTickets();
        Edges.spell(x, "banana");
        Expect.same("letters", 6, x.account(1));
    }

    static void p35_noOpenPier() {
        Expect.same("piers", 0, Edges.office("c0;c1;c2;c3;c4").account(3));
    }

    static void p35_allTorn() {
        FerryTickets x = Edges.withTickets(8);
        for (int ticket = 0; ticket < 8; ticket++) {
            x.wet(ticket, ticket % 2 == 0, 6);
        }
        Expect.same("torn", 8, x.account(4));
    }

    static void p35_allLost() {
        FerryTickets x = Edges.withTickets(8);
        for (int ticket = 0; ticket < 8; ticket++) {
            x.lose(ticket, ticket % 2 == 0);
        }
        Expect.same("lost", 16, x.account(5));
    }

    private static FerryTickets allPunched() {
        FerryTickets x = Edges.withWords("uuuuuu", "uuuuuu", "uuuuuu", "uuuuuu", "uuuuuu", "uuuuuu", "uuuuuu", "uuuuuu");
        for (int ticket = 0; ticket < 8; ticket++) {
            x.punch(ticket, false, 0);
            x.punch(ticket, true, 0);
        }
        return x;
    }

    static void p35_allPunched() {
        Expect.same("punched", 16, allPunched().account(6));
    }

    static void p35_mostHoles() {
        Expect.same("left", 480, allPunched().account(7));
        Expect.same("punched", 480, allPunched().account(11));
    }

    static void p35_holesLeftInTheWet() {
        FerryTickets x = allPunched();
        x.wet(0, false, 3);
        Expect.same("left", 474, x.account(7));
        x.wet(0, false, 9);
        Expect.same("left", 480 - 18 - 6, x.account(7));
        Expect.same("punched", 480, x.account(11));
    }

    static void p35_holesLeftInTheLost() {
        FerryTickets x = allPunched();
        x.lose(3, true);
        Expect.same("left", 480, x.account(7));
    }

    static void p35_printedMoreThanEight() {
        FerryTickets x = Edges.withTickets(8);
        x.throwAway(0);
        Expect.print(x, "ba", 0, 1, 1);
        Expect.same("printed", 9, x.account(8));
        x.letter('b');
        Expect.refused("print", x, 2, 1, () -> x.print(0, 1, 1));
        Expect.same("refused ones are not", 9, x.account(8));
    }

    static void p35_ridesApart() {
        FerryTickets x = Edges.office("nba:0>1/1;nba:0>1/1;p0o=0;p0r=0;p1o=0;g0o;g1o;g0r");
        Expect.same("out", 2, x.account(9));
        Expect.same("return", 1, x.account(10));
    }

    static void p35_emptyAndFullBuffer() {
        FerryTickets x = new FerryTickets();
        for (int count = 0; count <= 60; count++) {
            Expect.same("characters", count, x.account(12));
            if (count < 60) {
                x.append('d');
            }
        }
        Expect.argument("read", () -> x.read());
        Expect.same("characters", 0, x.account(12));
    }

    static void p35_noneToEightChanges() {
        FerryTickets x = new FerryTickets();
        for (int count = 0; count <= 12; count++) {
            Expect.same("changes", Math.min(8, count), x.account(13));
            x.day();
        }
    }

    // ---- 36: meanWet

    static void p36_noTickets() {
        Edges.unchanged(Edges.ARITHMETIC, FerryTickets::new, x -> x.meanWet());
        FerryTickets x = Edges.withTickets(1);
        x.throwAway(0);
        Expect.arithmetic("none again", () -> x.meanWet());
    }

    static void p36_allDry() {
        Expect.same("mean", 0.0, Edges.withTickets(1).meanWet());
        Expect.same("mean", 0.0, Edges.withTickets(8).meanWet());
    }

    static void p36_allWetByNine() {
        Expect.same("mean", 9.0, Edges.office("nba:0>1/1;t0;w0o+9;w0r+9").meanWet());
    }

    static void p36_notRounded() {
        Expect.same("1 of 2", 0.5, Edges.office("nba:0>1/1;w0o+1").meanWet());
        Expect.same("1 of 6", 1.0 / 6.0, Edges.office("nba:0>1/1;nba:0>1/1;nba:0>1/1;w2r+1").meanWet());
        Expect.same("13 of 14", 13.0 / 14.0,
            Edges.office("nba:0>1/1;nba:0>1/1;nba:0>1/1;nba:0>1/1;nba:0>1/1", "nba:0>1/1;nba:0>1/1;w6o+9").meanWet());
    }

    // ---- 37: readShare

    static void p37_nonePunched() {
        Edges.unchanged(Edges.ARITHMETIC, FerryTickets::new, x -> x.readShare());
        Edges.unchanged(Edges.ARITHMETIC, () -> Edges.withTickets(8), x -> x.readShare());
        FerryTickets x = Edges.punched("ba", false, 0);
        x.throwAway(0);
        Expect.arithmetic("none again", () -> x.readShare());
    }

    static void p37_all() {
        Expect.same("one", 1f, Edges.punched("ba", true, 0).readShare());
        Expect.same("sixteen", 1f, allPunched().readShare());
    }

    static void p37_none() {
        Expect.same("one", 0f, Edges.washed("ba", false, 0, 3).readShare());
    }

    static void p37_notRounded() {
        FerryTickets x = Edges.office("nba:0>1/1;nba:0>1/1;p0o=0;p0r=0;p1o=0;w0o+4");
        Expect.same("two of three", 2f / 3f, x.readShare());
        x.wet(1, false, 3);
        Expect.same("one of three", 1f / 3f, x.readShare());
    }

    static void p37_wetByTwoAndByThree() {
        Expect.same("by 2", 1f, Edges.washed("ba", false, 0, 2).readShare());
        Expect.same("by 3", 0f, Edges.washed("bu", false, 0, 3).readShare());
    }

    static void p37_oneLetterUnlike() {
        Expect.same("last", 0f, Edges.washed("bdklmu", true, 0, 3).readShare());
        Expect.same("first", 0f, Edges.washed("ubdklm", true, 0, 3).readShare());
    }

    static void p37_lostAllTheSame() {
        FerryTickets x = Edges.punched("ba", true, 0);
        x.lose(0, true);
        Expect.same("share", 1f, x.readShare());
    }
}
