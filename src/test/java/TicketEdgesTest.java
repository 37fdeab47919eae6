/** The boundary cases of promises 1 to 10, and of what the terms say of words, tickets, moods and piers. */
public final class TicketEdgesTest {
    public static void main(String[] args) throws IllegalAccessException {
        Edges.run(TicketEdgesTest.class);
    }

    // ---- 1: a new object

    static void p01_noTicket() {
        FerryTickets x = new FerryTickets();
        Expect.same("tickets", 0, x.account(0));
        Expect.index("ticket 0", () -> x.ticketOf(0, 0));
    }

    static void p01_draftEmpty() {
        FerryTickets x = new FerryTickets();
        Expect.same("letters", 0, x.account(1));
        Expect.refused("unletter", x, 11, 0, () -> x.unletter());
    }

    static void p01_daysFromZero() {
        Expect.same("day", 0, new FerryTickets().account(2));
    }

    static void p01_eachPierOpen() {
        Expect.same("piers", "open 0 1 2 3 4", Edges.piers(new FerryTickets()));
        Expect.same("piers", 5, new FerryTickets().account(3));
    }

    static void p01_eachMoodZero() {
        Expect.same("moods", "moods 0 0 0", Edges.moods(new FerryTickets()));
    }

    static void p01_accountsZero() {
        FerryTickets x = new FerryTickets();
        for (int what = 0; what < 14; what++) {
            Expect.same("account " + what, what == 3 ? 5 : 0, x.account(what));
        }
    }

    static void p01_bufferEmpty() {
        FerryTickets x = new FerryTickets();
        Expect.argument("read", () -> x.read());
        Expect.same("position", 0, x.errorPosition());
    }

    static void p01_lineEmpty() {
        Expect.index("character", () -> new FerryTickets().character(0));
    }

    static void p01_nothingRefused() {
        Expect.state("reason", () -> new FerryTickets().refusal(false));
        Expect.state("detail", () -> new FerryTickets().refusal(true));
    }

    static void p01_noFault() {
        Expect.element("position", () -> new FerryTickets().errorPosition());
        Expect.element("item", () -> new FerryTickets().refusedItem());
    }

    static void p01_nothingToUndo() {
        Expect.state("undo", () -> new FerryTickets().undo());
    }

    static void p01_noSnapshot() {
        Expect.state("restore", () -> new FerryTickets().restore());
    }

    static void p01_twoOfficesApart() {
        FerryTickets x = Edges.rich();
        FerryTickets y = new FerryTickets();
        Expect.same("the other", 0, y.account(0));
        Edges.withTickets(8);
        Expect.same("the one", 3, x.account(0));
    }

    static void p01_call512() {
        FerryTickets x = new FerryTickets();
        for (int call = 1; call <= 512; call++) {
            Expect.same("call " + call, call, x.day());
        }
        FerryTickets y = Edges.withTickets(8);
        for (int call = 25; call < 512; call++) {
            y.wet(call % 8, true, 9);
        }
        Expect.same("call 512", 9.0 / 2 + 2, y.meanWet());
    }

    // ---- 2: clear

    static void p02_ofNothing() {
        FerryTickets x = new FerryTickets();
        Expect.same("clear", 0, x.clear());
        Expect.same("all", Edges.all(FerryTickets::new), Edges.all(() -> cleared(new FerryTickets())));
    }

    private static FerryTickets cleared(FerryTickets x) {
        x.clear();
        return x;
    }

    static void p02_ofOneTicket() {
        Expect.same("clear", 1, Edges.withTickets(1).clear());
    }

    static void p02_ofEightTickets() {
        Expect.same("clear", 8, Edges.withTickets(8).clear());
    }

    static void p02_twice() {
        Expect.same("again", 0, cleared(Edges.withTickets(3)).clear());
    }

    static void p02_allAsNew() {
        Expect.same("all", Edges.now(FerryTickets::new), Edges.now(() -> cleared(Edges.rich())));
    }

    static void p02_draftEmpty() {
        FerryTickets x = new FerryTickets();
        Edges.spell(x, "banana");
        x.clear();
        Expect.same("letters", 0, x.account(1));
        Expect.same("letter", 1, x.letter('b'));
    }

    static void p02_dayZero() {
        FerryTickets x = new FerryTickets();
        Edges.days(x, 3);
        x.clear();
        Expect.same("day", 0, x.account(2));
        Expect.same("day", 1, x.day());
    }

    static void p02_piersOpen() {
        Expect.same("piers", "open 0 1 2 3 4", Edges.piers(cleared(Edges.office("c0;c1;c2;c3;c4"))));
    }

    static void p02_moodsZero() {
        Expect.same("moods", "moods 0 0 0", Edges.moods(cleared(Edges.office("m0=1;m1=2;m2=4"))));
    }

    static void p02_countsZero() {
        FerryTickets x = cleared(Edges.office("nba:0>1/1;p0o=0;p0r=0;g0o;g0r"));
        for (int what = 8; what < 12; what++) {
            Expect.same("account " + what, 0, x.account(what));
        }
    }

    static void p02_noChangeToUndo() {
        FerryTickets x = cleared(Edges.rich());
        Expect.same("changes", 0, x.account(13));
        Expect.state("undo", () -> x.undo());
        x.day();
        Expect.same("one after it", 0, x.undo());
        Expect.state("undo", () -> x.undo());
    }

    static void p02_bufferStays() {
        FerryTickets x = new FerryTickets();
        Expect.append(x, "d;d");
        x.clear();
        Expect.same("characters", 3, x.account(12));
        Expect.same("orders", 2, x.read());
    }

    static void p02_errorPositionStays() {
        FerryTickets x = new FerryTickets();
        Expect.argument("malformed", () -> Expect.read(x, "d;d;!"));
        x.clear();
        Expect.same("position", 4, x.errorPosition());
    }

    static void p02_refusedItemStays() {
        FerryTickets x = new FerryTickets();
        Expect.same("refused", Edges.REFUSED, Expect.outcome(() -> Expect.read(x, "d;d;x0")));
        x.clear();
        Expect.same("item", 2, x.refusedItem());
    }

    static void p02_refusalStays() {
        FerryTickets x = Edges.office("m1=2");
        Expect.refused("mood", x, 3, 2, () -> x.mood(1, 2));
        x.clear();
        Expect.same("refusal", "3 2", Edges.refusal(x));
    }

    static void p02_lineStays() {
        FerryTickets x = Edges.withTickets(1);
        x.line(0);
        x.clear();
        Expect.same("line", ".-.:0>1", Edges.text(x));
    }

    static void p02_snapshotStays() {
        FerryTickets x = Edges.withTickets(2);
        x.snapshot();
        x.clear();
        Expect.same("restore", 2, x.restore());
    }

    static void p02_noSnapshotIsMade() {
        Expect.state("restore", () -> cleared(Edges.withTickets(2)).restore());
    }

    static void p02_roomForEight() {
        FerryTickets x = cleared(Edges.withTickets(8));
        for (int ticket = 0; ticket < 8; ticket++) {
            Expect.same("ticket", ticket, Expect.print(x, "be", 0, 1, 1));
        }
    }

    static void p02_ticketsAfterItAreNew() {
        FerryTickets x = Edges.office("nbanana:0>1/1;p0o=0;p0r=0;g0o;g0r;w0o+9;l0o;l0r");
        x.clear();
        Expect.print(x, "du", 2, 3, 4);
        FerryTickets y = new FerryTickets();
        Expect.print(y, "du", 2, 3, 4);
        Expect.same("all", Expect.digest(y), Expect.digest(x));
    }

    // ---- 3: letter

    static void p03_firstLetter() {
        Expect.same("length", 1, new FerryTickets().letter('b'));
    }

    static void p03_sixthLetter() {
        FerryTickets x = new FerryTickets();
        Edges.spell(x, "banan");
        Expect.same("length", 6, x.letter('a'));
    }

    static void p03_seventhLetter() {
        Edges.refused(1, 6, () -> withDraft("banana"), x -> x.letter('b'));
    }

    private static FerryTickets withDraft(String letters) {
        FerryTickets x = new FerryTickets();
        Edges.spell(x, letters);
        return x;
    }

    static void p03_seventhVowel() {
        Edges.refused(1, 6, () -> withDraft("bdklmn"), x -> x.letter('a'));
    }

    static void p03_eachLetterOfAWord() {
        for (char letter : Edges.LETTERS.toCharArray()) {
            FerryTickets x = new FerryTickets();
            Expect.same("" + letter, 1, x.letter(letter));
            x.letter('a');
            x.letter('b');
            x.print(0, 1, 1);
            Expect.same("" + letter, letter, x.wordAt(0, 0));
        }
    }

    static void p03_eachOtherCharacter() {
        FerryTickets x = new FerryTickets();
        for (int code = 0; code < 65536; code++) {
            if (code % 256 == 0) {
                x = new FerryTickets();
            }
            FerryTickets one = x;
            char letter = (char) code;
            if (Edges.LETTERS.indexOf(letter) < 0) {
                Expect.argument("code " + code, () -> one.letter(letter));
            }
        }
    }

    static void p03_capitalsAreNone() {
        for (char letter : Edges.LETTERS.toUpperCase().toCharArray()) {
            Edges.unchanged(Edges.ARGUMENT, FerryTickets::new, x -> x.letter(letter));
        }
    }

    static void p03_unreadSignIsNone() {
        Edges.unchanged(Edges.ARGUMENT, Edges::rich, x -> x.letter('?'));
    }

    static void p03_noLetterBeforeFull() {
        Edges.unchanged(Edges.ARGUMENT, () -> withDraft("banana"), x -> x.letter('c'));
    }

    static void p03_roomAfterUnletter() {
        FerryTickets x = withDraft("banana");
        x.unletter();
        Expect.same("length", 6, x.letter('u'));
    }

    // ---- 4: unletter

    static void p04_emptyDraftWithoutTickets() {
        Edges.refused(11, 0, FerryTickets::new, x -> x.unletter());
    }

    static void p04_emptyDraftWithEightTickets() {
        Edges.refused(11, 8, () -> Edges.withTickets(8), x -> x.unletter());
    }

    static void p04_emptyDraftAfterPrint() {
        Edges.refused(11, 1, () -> Edges.withTickets(1), x -> x.unletter());
    }

    static void p04_emptyDraftCountsWhatIsLeft() {
        FerryTickets x = Edges.withTickets(3);
        x.throwAway(1);
        Expect.refused("unletter", x, 11, 2, () -> x.unletter());
    }

    static void p04_onlyLetter() {
        FerryTickets x = withDraft("b");
        Expect.same("length", 0, x.unletter());
        Expect.refused("again", x, 11, 0, () -> x.unletter());
    }

    static void p04_fromSixToNone() {
        FerryTickets x = withDraft("banana");
        for (int length = 5; length >= 0; length--) {
            Expect.same("length", length, x.unletter());
        }
    }

    static void p04_takesTheLast() {
        FerryTickets x = withDraft("bade");
        x.unletter();
        x.print(0, 1, 1);
        Expect.same("length", 3, x.ticketOf(0, 0));
        Expect.same("last", 'd', x.wordAt(0, 2));
    }

    // ---- 5: print

    private static FerryTickets spelled() {
        return withDraft("ba");
    }

    static void p05_noSuchFrom() {
        Edges.outside(Edges.INDEX, 5, from -> spelled().print(from, 0, 1));
        Edges.unchanged(Edges.INDEX, Edges::rich, x -> x.print(5, 0, 1));
    }

    static void p05_noSuchTo() {
        Edges.outside(Edges.INDEX, 5, to -> spelled().print(0, to, 1));
        Edges.unchanged(Edges.INDEX, Edges::rich, x -> x.print(0, -1, 1));
    }

    static void p05_eachTwoPiers() {
        for (int from = 0; from < 5; from++) {
            for (int to = 0; to < 5; to++) {
                int one = from;
                int other = to;
                Object due = from == to ? Edges.ARGUMENT : (Object) 0;
                Expect.same(from + ">" + to, due, Expect.outcome(() -> spelled().print(one, other, 1)));
            }
        }
    }

    static void p05_bothPiersOne() {
        Edges.unchanged(Edges.ARGUMENT, Edges::rich, x -> x.print(4, 4, 1));
    }

    static void p05_clauseOutOfRange() {
        Expect.argument("clause 0", () -> spelled().print(0, 1, 0));
        Edges.outside(Edges.ARGUMENT, 10, clause -> spelled().print(0, 1, clause));
        Edges.unchanged(Edges.ARGUMENT, Edges::rich, x -> x.print(0, 1, 0));
    }

    static void p05_clauseOneToNine() {
        for (int clause = 1; clause <= 9; clause++) {
            FerryTickets x = spelled();
            Expect.same("number", 0, x.print(0, 1, clause));
            Expect.same("clause", clause, x.ticketOf(0, 4));
        }
    }

    static void p05_closedPiersAreNoMatter() {
        FerryTickets x = Edges.office("c0;c1;c2;c3;c4");
        Edges.spell(x, "ba");
        Expect.same("number", 0, x.print(0, 1, 1));
    }

    static void p05_emptyDraft() {
        Edges.refused(2, 0, FerryTickets::new, x -> x.print(0, 1, 1));
    }

    static void p05_oneVowel() {
        Edges.refused(2, 1, () -> withDraft("a"), x -> x.print(0, 1, 1));
    }

    static void p05_oneConsonant() {
        Edges.refused(2, 1, () -> withDraft("b"), x -> x.print(0, 1, 1));
    }

    static void p05_noVowel() {
        Edges.refused(2, 2, () -> withDraft("bd"), x -> x.print(0, 1, 1));
        Edges.refused(2, 5, () -> withDraft("klmnr"), x -> x.print(0, 1, 1));
        Edges.refused(2, 6, () -> withDraft("stbdkl"), x -> x.print(0, 1, 1));
    }

    static void p05_twoLetters() {
        FerryTickets x = withDraft("ub");
        Expect.same("number", 0, x.print(0, 1, 1));
        Expect.same("letters", 2, x.ticketOf(0, 0));
    }

    static void p05_sixLetters() {
        FerryTickets x = withDraft("stribo");
        Expect.same("number", 0, x.print(0, 1, 1));
        Expect.same("letters", 6, x.ticketOf(0, 0));
    }

    static void p05_oneVowelAmongSix() {
        for (String word : new String[] {"abdklm", "bdklmi", "bdoklm"}) {
            Expect.same(word, 0, withDraft(word).print(0, 1, 1));
        }
    }

    static void p05_eachVowelIsOne() {
        for (char vowel : Edges.VOWELS.toCharArray()) {
            Expect.same("" + vowel, 0, withDraft("b" + vowel).print(0, 1, 1));
        }
    }

    static void p05_vowelsAlone() {
        Expect.same("number", 0, withDraft("aeioua").print(0, 1, 1));
    }

    static void p05_eighthTicket() {
        FerryTickets x = Edges.withTickets(7);
        Expect.same("number", 7, Expect.print(x, "du", 0, 1, 1));
        Expect.same("tickets", 8, x.account(0));
    }

    private static FerryTickets full(String draft) {
        FerryTickets x = Edges.withTickets(8);
        Edges.spell(x, draft);
        return x;
    }

    static void p05_ninthTicket() {
        Edges.refused(1, 8, () -> full("du"), x -> x.print(0, 1, 1));
    }

    static void p05_ninthTicketAfterThrowAway() {
        Edges.refused(1, 8, () -> {
            FerryTickets x = full("du");
            x.throwAway(0);
            x.print(0, 1, 1);
            Edges.spell(x, "du");
            return x;
        }, x -> x.print(0, 1, 1));
    }

    static void p05_wordBeforeRoom() {
        Edges.refused(2, 1, () -> full("u"), x -> x.print(0, 1, 1));
        Edges.refused(2, 3, () -> full("bbb"), x -> x.print(0, 1, 1));
    }

    static void p05_pierBeforeArgument() {
        Expect.index("one pier", () -> spelled().print(5, 5, 1));
        Expect.index("clause", () -> spelled().print(0, 5, 0));
        Expect.index("clause", () -> spelled().print(-1, 0, 10));
    }

    static void p05_pierBeforeRefusal() {
        Edges.unchanged(Edges.INDEX, () -> full("u"), x -> x.print(5, 0, 1));
    }

    static void p05_argumentBeforeRefusal() {
        Edges.unchanged(Edges.ARGUMENT, () -> full("u"), x -> x.print(1, 1, 1));
        Edges.unchanged(Edges.ARGUMENT, () -> full("du"), x -> x.print(1, 2, 10));
        Edges.unchanged(Edges.ARGUMENT, FerryTickets::new, x -> x.print(1, 2, 0));
    }

    static void p05_draftEmptyThen() {
        FerryTickets x = spelled();
        x.print(0, 1, 1);
        Expect.same("letters", 0, x.account(1));
        Expect.same("first letter", 1, x.letter('d'));
        Expect.refused("print", x, 2, 1, () -> x.print(0, 1, 1));
    }

    static void p05_roomAfterThrowAway() {
        FerryTickets x = full("du");
        x.throwAway(0);
        Expect.same("number", 7, x.print(0, 1, 1));
    }

    static void p05_newTicketIsWhole() {
        FerryTickets x = withDraft("bode");
        x.print(4, 0, 9);
        Expect.same("line", ".-.:4>0", Expect.line(x, 0));
        Expect.same("holes", 0, x.account(7));
        Expect.same("wet", 0.0, x.meanWet());
        Expect.same("ridden", -1, x.ticketOf(0, 6));
    }

    // ---- 6: throwAway

    static void p06_noTickets() {
        Edges.unchanged(Edges.INDEX, FerryTickets::new, x -> x.throwAway(0));
    }

    static void p06_noSuchTicket() {
        Edges.outside(Edges.INDEX, 3, ticket -> Edges.withTickets(3).throwAway(ticket));
        Edges.outside(Edges.INDEX, 8, ticket -> Edges.withTickets(8).throwAway(ticket));
        Edges.unchanged(Edges.INDEX, Edges::rich, x -> x.throwAway(3));
    }

    private static String firstLetters(FerryTickets x) {
        StringBuilder text = new StringBuilder();
        for (int ticket = 0; ticket < x.account(0); ticket++) {
            text.append(x.wordAt(ticket, 0));
        }
        return text.toString();
    }

    private static FerryTickets eightWords() {
        return Edges.withWords("ba", "da", "ka", "la", "ma", "na", "ra", "sa");
    }

    static void p06_theOnlyOne() {
        FerryTickets x = Edges.withTickets(1);
        Expect.same("left", 0, x.throwAway(0));
        Expect.index("again", () -> x.throwAway(0));
    }

    static void p06_theFirstOfEight() {
        FerryTickets x = eightWords();
        Expect.same("left", 7, x.throwAway(0));
        Expect.same("the later ones", "dklmnrs", firstLetters(x));
    }

    static void p06_theLastOfEight() {
        FerryTickets x = eightWords();
        Expect.same("left", 7, x.throwAway(7));
        Expect.same("the others stay", "bdklmnr", firstLetters(x));
        Expect.index("its number", () -> x.wordAt(7, 0));
    }

    static void p06_oneInTheMiddle() {
        FerryTickets x = eightWords();
        Expect.same("left", 7, x.throwAway(3));
        Expect.same("the later ones", "bdkmnrs", firstLetters(x));
    }

    static void p06_untilNoneIsLeft() {
        FerryTickets x = eightWords();
        for (int left = 7; left >= 0; left--) {
            Expect.same("left", left, x.throwAway(left / 2));
        }
        Expect.index("none", () -> x.throwAway(0));
    }

    static void p06_theLaterOneWithAllOfIt() {
        FerryTickets x = Edges.office("nba:0>1/1;nbe:1>2/3;p1o=0;g1o;d;l1r;w1r+7");
        x.throwAway(0);
        FerryTickets y = Edges.office("nbe:1>2/3;p0o=0;g0o;d;l0r;w0r+7");
        for (int what = 0; what < 7; what++) {
            Expect.same("ticketOf " + what, y.ticketOf(0, what), x.ticketOf(0, what));
        }
        Expect.same("line", Expect.line(y, 0), Expect.line(x, 0));
    }

    static void p06_whatWasOnItIsGone() {
        FerryTickets x = Edges.office("nba:0>1/1;p0o=0;p0r=0;w0o+8;l0o;l0r");
        x.throwAway(0);
        for (int what = 4; what <= 7; what++) {
            Expect.same("account " + what, 0, x.account(what));
        }
    }

    static void p06_whatWasCountedStays() {
        FerryTickets x = Edges.office("nba:0>1/1;p0o=0;p0r=0;g0o;g0r");
        x.throwAway(0);
        int[] due = {1, 1, 1, 2};
        for (int what = 8; what < 12; what++) {
            Expect.same("account " + what, due[what - 8], x.account(what));
        }
    }

    static void p06_aNewOneInItsPlaceIsNew() {
        FerryTickets x = Edges.office("nbanana:0>1/1;p0o=0;p0r=0;g0o;g0r;w0o+9;l0o;l0r");
        x.throwAway(0);
        Expect.print(x, "du", 2, 3, 4);
        FerryTickets y = Edges.office("ndu:2>3/4");
        for (int what = 0; what < 7; what++) {
            Expect.same("ticketOf " + what, y.ticketOf(0, what), x.ticketOf(0, what));
        }
        for (int what = 0; what < 8; what++) {
            Expect.same("out half " + what, y.halfOf(0, false, what), x.halfOf(0, false, what));
            Expect.same("return half " + what, y.halfOf(0, true, what), x.halfOf(0, true, what));
        }
    }

    // ---- 7: mood

    static void p07_noSuchPuncher() {
        Edges.outside(Edges.INDEX, 3, puncher -> new FerryTickets().mood(puncher, 1));
        Edges.unchanged(Edges.INDEX, Edges::rich, x -> x.mood(3, 1));
    }

    static void p07_moodOutOfRange() {
        Edges.outside(Edges.ARGUMENT, 5, mood -> new FerryTickets().mood(2, mood));
        Edges.unchanged(Edges.ARGUMENT, Edges::rich, x -> x.mood(0, 5));
        Edges.unchanged(Edges.ARGUMENT, Edges::rich, x -> x.mood(0, -1));
    }

    static void p07_puncherBeforeMood() {
        Expect.index("both", () -> new FerryTickets().mood(3, 5));
        Expect.index("both", () -> new FerryTickets().mood(-1, -1));
    }

    static void p07_zeroAtFirst() {
        for (int puncher = 0; puncher < 3; puncher++) {
            int one = puncher;
            Edges.refused(3, 0, FerryTickets::new, x -> x.mood(one, 0));
            Expect.same("before", 0, new FerryTickets().mood(puncher, 4));
        }
    }

    static void p07_soAlready() {
        for (int puncher = 0; puncher < 3; puncher++) {
            for (int mood = 1; mood < 5; mood++) {
                int one = puncher;
                int told = mood;
                Edges.refused(3, mood, () -> inMood(one, told), x -> x.mood(one, told));
            }
        }
    }

    private static FerryTickets inMood(int puncher, int mood) {
        FerryTickets x = new FerryTickets();
        x.mood(puncher, mood);
        return x;
    }

    static void p07_moodBefore() {
        FerryTickets x = inMood(2, 4);
        Expect.same("before", 4, x.mood(2, 0));
        Expect.same("before", 0, x.mood(2, 3));
    }

    static void p07_otherPunchersStay() {
        Expect.same("moods", "moods 0 3 0", Edges.moods(inMood(1, 3)));
    }

    // ---- 8: pier

    static void p08_noSuchPier() {
        Edges.outside(Edges.INDEX, 5, pier -> new FerryTickets().pier(pier, false));
        Edges.outside(Edges.INDEX, 5, pier -> new FerryTickets().pier(pier, true));
        Edges.unchanged(Edges.INDEX, Edges::rich, x -> x.pier(5, false));
    }

    static void p08_openAlready() {
        for (int pier = 0; pier < 5; pier++) {
            int one = pier;
            Edges.refused(3, 1, FerryTickets::new, x -> x.pier(one, true));
        }
    }

    static void p08_closedAlready() {
        for (int pier = 0; pier < 5; pier++) {
            int one = pier;
            Edges.refused(3, 0, () -> Edges.office("c" + one), x -> x.pier(one, false));
        }
    }

    static void p08_allClosed() {
        FerryTickets x = new FerryTickets();
        for (int pier = 4; pier >= 0; pier--) {
            Expect.same("open", pier, x.pier(pier, false));
        }
        Expect.same("open", "open", Edges.piers(Edges.office("c0;c1;c2;c3;c4")));
    }

    static void p08_allOpenAgain() {
        FerryTickets x = Edges.office("c0;c1;c2;c3;c4");
        for (int pier = 0; pier < 5; pier++) {
            Expect.same("open", pier + 1, x.pier(pier, true));
        }
    }

    static void p08_otherPiersStay() {
        Expect.same("open", "open 0 1 3 4", Edges.piers(Edges.office("c2")));
        Expect.same("open", "open 4", Edges.piers(Edges.office("c0;c1;c2;c3;c4;o4")));
    }

    // ---- 9: ticketOf

    static void p09_noSuchTicket() {
        Edges.outside(Edges.INDEX, 0, ticket -> new FerryTickets().ticketOf(ticket, 0));
        Edges.outside(Edges.INDEX, 2, ticket -> Edges.withTickets(2).ticketOf(ticket, 0));
        Edges.outside(Edges.INDEX, 8, ticket -> Edges.withTickets(8).ticketOf(ticket, 0));
        Edges.unchanged(Edges.INDEX, Edges::rich, x -> x.ticketOf(3, 0));
    }

    static void p09_whatOutOfRange() {
        Edges.outside(Edges.ARGUMENT, 7, what -> Edges.withTickets(1).ticketOf(0, what));
        Edges.unchanged(Edges.ARGUMENT, Edges::rich, x -> x.ticketOf(0, 7));
    }

    static void p09_ticketBeforeWhat() {
        Expect.index("both", () -> new FerryTickets().ticketOf(0, 7));
        Expect.index("both", () -> Edges.withTickets(1).ticketOf(-1, -1));
    }

    static void p09_fewestAndMostLetters() {
        FerryTickets x = Edges.withWords("ba", "banana");
        Expect.same("letters", 2, x.ticketOf(0, 0));
        Expect.same("letters", 6, x.ticketOf(1, 0));
    }

    static void p09_fewestAndMostVowels() {
        FerryTickets x = Edges.withWords("bdklma", "aeiouu", "ub");
        Expect.same("vowels", 1, x.ticketOf(0, 1));
        Expect.same("vowels", 6, x.ticketOf(1, 1));
        Expect.same("vowels", 1, x.ticketOf(2, 1));
    }

    static void p09_lowestAndHighestPier() {
        FerryTickets x = Edges.office("nba:0>4/1;nba:4>0/9");
        Expect.same("from", 0, x.ticketOf(0, 2));
        Expect.same("to", 4, x.ticketOf(0, 3));
        Expect.same("from", 4, x.ticketOf(1, 2));
        Expect.same("to", 0, x.ticketOf(1, 3));
    }

    static void p09_shortestAndLongestClause() {
        FerryTickets x = Edges.office("nba:0>4/1;nba:4>0/9");
        Expect.same("clause", 1, x.ticketOf(0, 4));
        Expect.same("clause", 9, x.ticketOf(1, 4));
    }

    static void p09_hyphenJoinedAndTorn() {
        FerryTickets x = Edges.office("nba:0>4/1;nba:4>0/9;t1");
        Expect.same("joined", 0, x.ticketOf(0, 5));
        Expect.same("torn", 1, x.ticketOf(1, 5));
    }

    static void p09_notRidden() {
        FerryTickets x = Edges.office("nba:0>4/1;p0o=0;p0r=0;d");
        Expect.same("day", -1, x.ticketOf(0, 6));
    }

    static void p09_riddenOnDayZero() {
        FerryTickets x = Edges.office("nba:0>4/1;p0o=0;p0r=0;g0o;d");
        Expect.same("day", 0, x.ticketOf(0, 6));
        x.ride(0, true);
        Expect.same("day of the out half", 0, x.ticketOf(0, 6));
    }

    // ---- 10: wordAt

    static void p10_noSuchTicket() {
        Edges.outside(Edges.INDEX, 0, ticket -> new FerryTickets().wordAt(ticket, 0));
        Edges.outside(Edges.INDEX, 2, ticket -> Edges.withTickets(2).wordAt(ticket, 0));
        Edges.unchanged(Edges.INDEX, Edges::rich, x -> x.wordAt(3, 0));
    }

    static void p10_noSuchPlace() {
        Edges.outside(Edges.ELEMENT, 2, place -> Edges.withTickets(1).wordAt(0, place));
        Edges.outside(Edges.ELEMENT, 6, place -> Edges.withWords("banana").wordAt(0, place));
        Edges.unchanged(Edges.ELEMENT, Edges::rich, x -> x.wordAt(0, 4));
    }

    static void p10_ticketBeforePlace() {
        Expect.index("both", () -> Edges.withTickets(1).wordAt(1, 2));
    }

    static void p10_firstAndLastPlace() {
        FerryTickets x = Edges.withWords("ub", "stride");
        Expect.same("first", 'u', x.wordAt(0, 0));
        Expect.same("last", 'b', x.wordAt(0, 1));
        Expect.same("first", 's', x.wordAt(1, 0));
        Expect.same("last", 'e', x.wordAt(1, 5));
    }

    static void p10_asPrintedWithoutHoles() {
        FerryTickets x = Edges.washed("bade", false, 0, 9);
        Expect.same("read", '?', x.readAt(0, false, 3));
        Expect.same("printed", 'e', x.wordAt(0, 3));
    }

    static void p10_noLetterOfALongerWordBefore() {
        FerryTickets x = Edges.withWords("banana");
        x.throwAway(0);
        Expect.print(x, "du", 0, 1, 1);
        Expect.element("place 2", () -> x.wordAt(0, 2));
    }
}
