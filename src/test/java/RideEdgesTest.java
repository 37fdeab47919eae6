/** The boundary cases of promises 22 to 30, and of what the terms say of riding and of refusals. */
public final class RideEdgesTest {
    private static final boolean[] HALVES = {false, true};

    public static void main(String[] args) throws IllegalAccessException {
        Edges.run(RideEdgesTest.class);
    }

    private static FerryTickets ready(int clause) {
        return Edges.office("nbadu:0>3/" + clause + ";p0o=0;p0r=0");
    }

    private static FerryTickets riddenOut(int clause, int daysAgo) {
        FerryTickets x = ready(clause);
        x.ride(0, false);
        Edges.days(x, daysAgo);
        return x;
    }

    /** The half is refused for the reason, and hinders tells it. */
    private static void refused(int reason, int detail, boolean isReturn, String... texts) {
        Edges.refused(reason, detail, () -> Edges.office(texts), x -> x.ride(0, isReturn));
        Expect.same("hinders", reason, Edges.office(texts).hinders(0, isReturn));
    }

    // ---- 22: ride

    static void p22_noSuchTicket() {
        Edges.outside(Edges.INDEX, 0, ticket -> new FerryTickets().ride(ticket, false));
        Edges.outside(Edges.INDEX, 1, ticket -> ready(1).ride(ticket, false));
        Edges.unchanged(Edges.INDEX, Edges::rich, x -> x.ride(3, true));
    }

    static void p22_lost() {
        refused(4, 0, false, "nbadu:0>3/1;p0o=0;l0o");
        refused(4, 1, true, "nbadu:0>3/1;p0o=0;p0r=0;g0o;l0o");
    }

    static void p22_theOtherLost() {
        Expect.same("out", 1, Edges.office("nbadu:0>3/1;p0o=0;t0;l0r").ride(0, false));
        Expect.same("return", 2, Edges.office("nbadu:0>3/1;p0o=0;p0r=0;g0o;t0;l0o").ride(0, true));
    }

    static void p22_foundAgain() {
        Expect.same("out", 1, Edges.office("nbadu:0>3/1;p0o=0;l0o;f0r").ride(0, false));
    }

    static void p22_notPunched() {
        refused(5, 0, false, "nbadu:0>3/1;p0r=0");
        refused(5, 1, true, "nbadu:0>3/1;p0o=0;g0o");
    }

    static void p22_lostBeforeNotPunched() {
        refused(4, 0, false, "nbadu:0>3/1;l0o");
        refused(4, 1, true, "nbadu:0>3/1;l0o");
    }

    static void p22_riddenAlready() {
        refused(6, 0, false, "nbadu:0>3/1;p0o=0;g0o");
        refused(6, 1, true, "nbadu:0>3/1;p0o=0;p0r=0;g0o;g0r");
    }

    static void p22_lostBeforeRidden() {
        refused(4, 0, false, "nbadu:0>3/1;p0o=0;g0o;l0o");
        refused(4, 1, true, "nbadu:0>3/1;p0o=0;p0r=0;g0o;g0r;l0o");
    }

    static void p22_riddenBeforeClause() {
        refused(6, 1, true, "nbadu:0>3/1;p0o=0;p0r=0;g0o;g0r;d;d;d");
    }

    static void p22_riddenBeforePierAndWord() {
        refused(6, 0, false, "nbadu:0>3/1;p0o=0;g0o;c0;w0o+9");
        refused(6, 1, true, "nbadu:0>3/1;p0o=0;p0r=0;g0o;g0r;c3;w0r+9");
    }

    static void p22_outHalfNotRidden() {
        refused(7, 0, true, "nbadu:0>3/1;p0o=0;p0r=0");
        refused(7, 3, true, "nbadu:0>3/1;p0r=0;d;d;d");
    }

    static void p22_notPunchedBeforeOutHalfNotRidden() {
        refused(5, 1, true, "nbadu:0>3/1;p0o=0;d");
    }

    static void p22_outHalfNotRiddenBeforePierAndWord() {
        refused(7, 1, true, "nbadu:0>3/1;p0r=0;d;c0;w0r+9");
    }

    static void p22_onTheSameDay() {
        for (int clause = 1; clause <= 9; clause++) {
            Expect.same("ridden", 2, riddenOut(clause, 0).ride(0, true));
        }
    }

    static void p22_onTheLastDayOfTheClause() {
        for (int clause = 1; clause <= 9; clause++) {
            Expect.same("ridden", 2, riddenOut(clause, clause).ride(0, true));
        }
    }

    static void p22_aDayAfterTheClause() {
        for (int clause = 1; clause <= 9; clause++) {
            int days = clause;
            Edges.refused(8, clause + 1, () -> riddenOut(days, days + 1), x -> x.ride(0, true));
        }
    }

    static void p22_longAfterTheClause() {
        Edges.refused(8, 300, () -> riddenOut(9, 300), x -> x.ride(0, true));
    }

    static void p22_clauseFromTheDayOfTheRide() {
        refused(8, 2, true, "d;d;d;nbadu:0>3/1;p0o=0;p0r=0;d;d;g0o;d;d");
        Expect.same("in time", 2, Edges.office("d;d;d;nbadu:0>3/1;p0o=0;p0r=0;d;d;g0o;d").ride(0, true));
    }

    static void p22_clauseIsNoMatterForTheOutHalf() {
        FerryTickets x = ready(1);
        Edges.days(x, 20);
        Expect.same("ridden", 1, x.ride(0, false));
    }

    static void p22_notPunchedBeforeClause() {
        refused(5, 1, true, "nbadu:0>3/1;p0o=0;g0o;d;d");
    }

    static void p22_clauseBeforePierAndWord() {
        refused(8, 2, true, "nbadu:0>3/1;p0o=0;p0r=0;g0o;d;d;c0;w0r+9");
    }

    static void p22_fromClosed() {
        refused(9, 1, false, "nbadu:1>3/1;p0o=0;c1");
        refused(9, 3, false, "nbadu:3>1/1;p0o=0;c3");
        refused(9, 1, true, "nbadu:1>3/1;p0o=0;p0r=0;g0o;c1");
    }

    static void p22_toClosed() {
        refused(9, 3, false, "nbadu:1>3/1;p0o=0;c3");
        refused(9, 1, false, "nbadu:3>1/1;p0o=0;c1");
        refused(9, 3, true, "nbadu:1>3/1;p0o=0;p0r=0;g0o;c3");
    }

    static void p22_theLowerOfBothClosed() {
        refused(9, 0, false, "nbadu:0>4/1;p0o=0;c0;c4");
        refused(9, 0, false, "nbadu:4>0/1;p0o=0;c4;c0");
        refused(9, 2, true, "nbadu:3>2/1;p0o=0;p0r=0;g0o;c3;c2");
    }

    static void p22_lowerPiersThatAreNotItsOwn() {
        refused(9, 4, false, "nbadu:4>2/1;p0o=0;c0;c1;c3;c4");
        Expect.same("ridden", 1, Edges.office("nbadu:4>2/1;p0o=0;c0;c1;c3").ride(0, false));
    }

    static void p22_openAgain() {
        Expect.same("ridden", 1, Edges.office("nbadu:0>4/1;p0o=0;c0;c4;o0;o4").ride(0, false));
    }

    static void p22_notPunchedBeforePier() {
        refused(5, 0, false, "nbadu:0>4/1;c0");
    }

    static void p22_pierBeforeWord() {
        refused(9, 4, false, "nbadu:0>4/1;p0o=0;w0o+9;c4");
    }

    static void p22_readAsAnotherWord() {
        refused(10, 0, false, "nubada:0>4/1;p0o=0;w0o+3");
        refused(10, 1, false, "nbadu:0>4/1;p0o=0;w0o+3");
        refused(10, 5, false, "nbdklmu:0>4/1;p0o=0;w0o+3");
        refused(10, 1, true, "nbu:0>4/1;p0o=0;p0r=0;g0o;w0r+3");
    }

    static void p22_aHoleTooFew() {
        refused(10, 1, false, "nba:0>4/1;p0o=0;w0o+3");
        refused(10, 3, false, "nbdka:0>4/1;m0=3;p0o=0;w0o+9");
    }

    static void p22_wetByTwo() {
        Expect.same("ridden", 1, Edges.office("nbadu:0>4/1;p0o=0;w0o+2").ride(0, false));
    }

    static void p22_soFar() {
        FerryTickets x = Edges.withTickets(8);
        for (int ticket = 0; ticket < 8; ticket++) {
            x.punch(ticket, false, 0);
            x.punch(ticket, true, 0);
            Expect.same("out", 2 * ticket + 1, x.ride(ticket, false));
            Expect.same("return", 2 * ticket + 2, x.ride(ticket, true));
        }
        x.throwAway(0);
        Expect.print(x, "ba", 0, 1, 1);
        x.punch(7, false, 0);
        Expect.same("those thrown away too", 17, x.ride(7, false));
    }

    static void p22_refusedRidesAreNotCounted() {
        FerryTickets x = Edges.withTickets(1);
        Expect.refused("not punched", x, 5, 0, () -> x.ride(0, false));
        x.punch(0, false, 0);
        Expect.same("ridden", 1, x.ride(0, false));
    }

    // ---- 23: hinders

    static void p23_noSuchTicket() {
        Edges.outside(Edges.INDEX, 0, ticket -> new FerryTickets().hinders(ticket, false));
        Edges.outside(Edges.INDEX, 1, ticket -> ready(1).hinders(ticket, true));
        Edges.unchanged(Edges.INDEX, Edges::rich, x -> x.hinders(3, true));
    }

    static void p23_nothing() {
        Expect.same("out", 0, ready(1).hinders(0, false));
        Expect.same("return", 0, riddenOut(1, 1).hinders(0, true));
    }

    static void p23_eachReason() {
        String[] texts = {"nba:0>1/1;l0o", "nba:0>1/1", "nba:0>1/1;p0o=0;g0o", "nba:0>1/1;p0r=0",
            "nba:0>1/1;p0r=0;p0o=0;g0o;d;d", "nba:0>1/1;p0o=0;c1", "nba:0>1/1;p0o=0;w0o+3"};
        boolean[] isReturn = {false, false, false, true, true, false, false};
        for (int i = 0; i < 7; i++) {
            Expect.same(texts[i], 4 + i, Edges.office(texts[i]).hinders(0, isReturn[i]));
        }
    }

    static void p23_nothingIsRefused() {
        for (boolean isReturn : HALVES) {
            Edges.onlyAsks(() -> Edges.withTickets(1), x -> x.hinders(0, isReturn));
            Edges.onlyAsks(Edges::rich, x -> x.hinders(2, isReturn));
        }
    }

    static void p23_nothingIsRidden() {
        Edges.onlyAsks(() -> ready(1), x -> x.hinders(0, false));
    }

    // ---- 24: day

    static void p24_firstDay() {
        Expect.same("day", 1, new FerryTickets().day());
    }

    static void p24_manyDays() {
        FerryTickets x = new FerryTickets();
        Edges.days(x, 510);
        Expect.same("day", 511, x.day());
        Expect.same("account", 511, x.account(2));
    }

    // ---- 25: daysLeft

    static void p25_noSuchTicket() {
        Edges.outside(Edges.INDEX, 0, ticket -> new FerryTickets().daysLeft(ticket));
        Edges.outside(Edges.INDEX, 1, ticket -> riddenOut(1, 0).daysLeft(ticket));
        Edges.unchanged(Edges.INDEX, Edges::rich, x -> x.daysLeft(3));
    }

    static void p25_outHalfNotRidden() {
        Edges.unchanged(Edges.ELEMENT, () -> ready(1), x -> x.daysLeft(0));
        Edges.unchanged(Edges.ELEMENT, () -> Edges.withTickets(1), x -> x.daysLeft(0));
    }

    static void p25_onTheDayOfTheRide() {
        for (int clause = 1; clause <= 9; clause++) {
            Expect.same("left", clause, riddenOut(clause, 0).daysLeft(0));
        }
    }

    static void p25_onTheLastDay() {
        for (int clause = 1; clause <= 9; clause++) {
            Expect.same("left", 1, riddenOut(clause, clause - 1).daysLeft(0));
            Expect.same("left", 0, riddenOut(clause, clause).daysLeft(0));
        }
    }

    static void p25_clauseOver() {
        for (int clause = 1; clause <= 9; clause++) {
            Expect.same("left", -1, riddenOut(clause, clause + 1).daysLeft(0));
            Expect.same("left", -1, riddenOut(clause, clause + 2).daysLeft(0));
        }
        Expect.same("left", -1, riddenOut(1, 300).daysLeft(0));
    }

    static void p25_fromTheDayOfTheRide() {
        Expect.same("left", 1, Edges.office("nba:0>1/3;p0o=0;d;d;d;d;d;g0o;d;d").daysLeft(0));
    }

    static void p25_byItsClauseAlone() {
        Expect.same("lost", 2, Edges.office("nba:0>1/2;p0o=0;g0o;l0o").daysLeft(0));
        Expect.same("ridden", 2, Edges.office("nba:0>1/2;p0o=0;p0r=0;g0o;g0r").daysLeft(0));
    }

    // ---- 26: words

    static void p26_noTickets() {
        Expect.same("words", 0, new FerryTickets().words());
    }

    static void p26_oneTicket() {
        Expect.same("words", 1, Edges.withTickets(1).words());
    }

    static void p26_allAlike() {
        Expect.same("words", 1, Edges.withTickets(8).words());
    }

    static void p26_allUnlike() {
        Expect.same("words", 8, Edges.withWords("ba", "be", "ab", "bab", "baba", "babab", "bababa", "da").words());
    }

    static void p26_unlikeAtTheFirstOrLastLetter() {
        Expect.same("first", 2, Edges.withWords("banana", "danana").words());
        Expect.same("last", 2, Edges.withWords("banana", "banane").words());
    }

    static void p26_aWordThatBeginsAnother() {
        Expect.same("longer", 2, Edges.withWords("ba", "bad").words());
        Expect.same("shorter", 2, Edges.withWords("bad", "ba").words());
    }

    static void p26_asPrinted() {
        FerryTickets x = Edges.withTickets(2);
        x.punch(0, false, 0);
        x.wet(0, false, 9);
        Expect.same("words", 1, x.words());
    }

    static void p26_notTheDraft() {
        FerryTickets x = Edges.withTickets(1);
        Edges.spell(x, "du");
        Expect.same("words", 1, x.words());
    }

    // ---- 27: sharing

    static void p27_noSuchTicket() {
        Edges.outside(Edges.INDEX, 0, ticket -> new FerryTickets().sharing(ticket));
        Edges.outside(Edges.INDEX, 8, ticket -> Edges.withTickets(8).sharing(ticket));
        Edges.unchanged(Edges.INDEX, Edges::rich, x -> x.sharing(3));
    }

    static void p27_itselfAlone() {
        Expect.same("only one", 1, Edges.withTickets(1).sharing(0));
        Expect.same("unlike", 1, Edges.withWords("ba", "bad", "be", "da").sharing(0));
    }

    static void p27_allEight() {
        for (int ticket = 0; ticket < 8; ticket++) {
            Expect.same("sharing", 8, Edges.withTickets(8).sharing(ticket));
        }
    }

    static void p27_firstAndLast() {
        FerryTickets x = Edges.withWords("ba", "du", "be", "ba");
        Expect.same("first", 2, x.sharing(0));
        Expect.same("last", 2, x.sharing(3));
        Expect.same("other", 1, x.sharing(1));
    }

    static void p27_notThoseThrownAway() {
        FerryTickets x = Edges.withTickets(3);
        x.throwAway(2);
        Expect.same("sharing", 2, x.sharing(0));
    }

    // ---- 28: often

    static void p28_noLetter() {
        for (char letter = 0; letter < 400; letter++) {
            char one = letter;
            if (Edges.LETTERS.indexOf(letter) < 0) {
                Expect.argument("code " + (int) letter, () -> Edges.withTickets(1).often(one));
            }
        }
        Edges.unchanged(Edges.ARGUMENT, Edges::rich, x -> x.often('?'));
        Expect.argument("far", () -> new FerryTickets().often('\uffff'));
    }

    static void p28_noTickets() {
        for (char letter : Edges.LETTERS.toCharArray()) {
            Expect.same("" + letter, 0, new FerryTickets().often(letter));
        }
    }

    static void p28_everyLetterOfEveryWord() {
        FerryTickets x = Edges.withWords("aaaaaa", "aaaaaa", "aaaaaa", "aaaaaa", "aaaaaa", "aaaaaa", "aaaaaa", "aaaaaa");
        Expect.same("a", 48, x.often('a'));
        Expect.same("e", 0, x.often('e'));
    }

    static void p28_eachLetterOnce() {
        FerryTickets x = Edges.withWords("bdklma", "nrstei", "ou");
        for (char letter : Edges.LETTERS.toCharArray()) {
            Expect.same("" + letter, 1, x.often(letter));
        }
    }

    static void p28_notInTheDraft() {
        FerryTickets x = Edges.withTickets(1);
        x.letter('b');
        Expect.same("b", 1, x.often('b'));
    }

    static void p28_notInWordsThrownAway() {
        FerryTickets x = Edges.withWords("banana", "du");
        x.throwAway(0);
        Expect.same("a", 0, x.often('a'));
        Expect.same("u", 1, x.often('u'));
    }

    static void p28_asPrinted() {
        FerryTickets x = Edges.washed("bu", false, 0, 3);
        Expect.same("u", 1, x.often('u'));
        Expect.same("o", 0, x.often('o'));
    }

    // ---- 29: ranked

    static void p29_noSuchMeasure() {
        Edges.outside(Edges.ARGUMENT, 3, measure -> Edges.withTickets(1).ranked(measure, 0));
        Edges.unchanged(Edges.ARGUMENT, Edges::rich, x -> x.ranked(3, 0));
    }

    static void p29_noSuchPlace() {
        for (int measure = 0; measure < 3; measure++) {
            int by = measure;
            Edges.outside(Edges.ELEMENT, 0, place -> new FerryTickets().ranked(by, place));
            Edges.outside(Edges.ELEMENT, 8, place -> Edges.withTickets(8).ranked(by, place));
        }
        Edges.unchanged(Edges.ELEMENT, Edges::rich, x -> x.ranked(0, 3));
    }

    static void p29_measureBeforePlace() {
        Expect.argument("both", () -> new FerryTickets().ranked(3, 0));
        Expect.argument("both", () -> new FerryTickets().ranked(-1, -1));
    }

    private static String order(FerryTickets x, int measure) {
        StringBuilder text = new StringBuilder();
        for (int place = 0; place < x.account(0); place++) {
            text.append(x.ranked(measure, place));
        }
        return text.toString();
    }

    static void p29_allTheSame() {
        for (int measure = 0; measure < 3; measure++) {
            Expect.same("measure " + measure, "01234567", order(Edges.withTickets(8), measure));
        }
    }

    static void p29_mostFirst() {
        FerryTickets x = Edges.withWords("ba", "bad", "badu", "badun", "badund", "du", "dub", "duba");
        Expect.same("letters", "43271605", order(x, 2));
    }

    static void p29_wetByBothHalvesTogether() {
        FerryTickets x = Edges.office("nba:0>1/1;nba:0>1/1;nba:0>1/1;nba:0>1/1;t0;t1;t2;t3", "w0o+5;w1o+3;w1r+3;w2r+5");
        Expect.same("wet", "1023", order(x, 0));
    }

    static void p29_mostWet() {
        FerryTickets x = Edges.office("nba:0>1/1;nba:0>1/1;w0o+9;t1;w1o+9;w1r+9");
        Expect.same("wet", "10", order(x, 0));
    }

    static void p29_holesLeftInBothTogether() {
        FerryTickets x = Edges.office("nbe:0>1/1;nba:0>1/1;nbi:0>1/1;nbi:0>1/1", "p0o=0;p0r=0;p1r=0;p2r=0;p3o=0;p3r=0");
        Expect.same("punched", "3021", order(x, 1));
        Expect.read(x, "t3;w3o+9;w3r+6");
        Expect.same("left, not punched", "0213", order(x, 1));
    }

    static void p29_notPunchedLast() {
        FerryTickets x = Edges.withTickets(3);
        x.punch(2, true, 0);
        Expect.same("holes", "201", order(x, 1));
    }

    // ---- 30: isRight

    static void p30_noTickets() {
        Expect.same("right", true, new FerryTickets().isRight());
    }

    static void p30_eightTickets() {
        Expect.same("right", true, Edges.withTickets(8).isRight());
    }

    static void p30_eachMoodAndWater() {
        for (int mood = 0; mood < 5; mood++) {
            for (int wet = 0; wet <= 9; wet++) {
                FerryTickets x = Edges.washed("aeiou", false, mood, wet);
                Expect.same("one half", true, x.isRight());
                x.punch(0, true, 1);
                Expect.same("both", true, x.isRight());
                x.lose(0, true);
                Expect.same("one lost", true, x.isRight());
            }
        }
    }

    static void p30_wetByTwoAndByThree() {
        Expect.same("by 2", true, Edges.office("nba:0>1/1;p0o=0;w0o+2").isRight());
        Expect.same("by 3", true, Edges.office("nba:0>1/1;p0o=0;w0o+3").isRight());
    }

    static void p30_joinedAndLost() {
        Expect.same("both lost", true, Edges.office("nba:0>1/1;l0r").isRight());
        Expect.same("torn since", true, Edges.office("nba:0>1/1;l0r;t0;f0o").isRight());
    }
}
