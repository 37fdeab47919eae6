/** The boundary cases of promises 11 to 21, and of what the terms say of punching, water, reading and losing. */
public final class HalfEdgesTest {
    private static final boolean[] HALVES = {false, true};

    public static void main(String[] args) throws IllegalAccessException {
        Edges.run(HalfEdgesTest.class);
    }

    private static FerryTickets one() {
        return Edges.withWords("badu");
    }

    private static String seen(FerryTickets x, boolean isReturn) {
        StringBuilder text = new StringBuilder();
        for (int place = 0; place < x.ticketOf(0, 0); place++) {
            text.append(x.readAt(0, isReturn, place));
        }
        return text.toString();
    }

    // ---- 11: punch

    static void p11_noSuchTicket() {
        Edges.outside(Edges.INDEX, 0, ticket -> new FerryTickets().punch(ticket, false, 0));
        Edges.outside(Edges.INDEX, 2, ticket -> Edges.withTickets(2).punch(ticket, true, 0));
        Edges.unchanged(Edges.INDEX, Edges::rich, x -> x.punch(3, false, 0));
    }

    static void p11_noSuchPuncher() {
        Edges.outside(Edges.INDEX, 3, puncher -> one().punch(0, false, puncher));
        Edges.unchanged(Edges.INDEX, Edges::rich, x -> x.punch(1, true, 3));
    }

    static void p11_puncherBeforeRefusal() {
        Edges.unchanged(Edges.INDEX, () -> Edges.punched("ba", false, 0), x -> x.punch(0, false, 3));
        Edges.unchanged(Edges.INDEX, () -> Edges.punched("ba", false, 0), x -> x.punch(0, false, -1));
    }

    static void p11_eachPuncher() {
        for (int puncher = 0; puncher < 3; puncher++) {
            FerryTickets x = Edges.office("nba:0>1/1;m0=1;m1=2;m2=3");
            Expect.same("holes", puncher + 2, x.punch(0, true, puncher));
        }
    }

    static void p11_punchedAlready() {
        for (boolean isReturn : HALVES) {
            for (int puncher = 0; puncher < 3; puncher++) {
                int one = puncher;
                Edges.refused(3, 1, () -> Edges.punched("badu", isReturn, 2), x -> x.punch(0, isReturn, one));
            }
        }
    }

    static void p11_theOtherHalfIsNot() {
        for (boolean isReturn : HALVES) {
            FerryTickets x = Edges.punched("ba", isReturn, 2);
            Expect.same("other", 0, x.halfOf(0, !isReturn, 0));
            Expect.same("holes", 3, x.punch(0, !isReturn, 0));
        }
    }

    static void p11_againAfterUndo() {
        FerryTickets x = Edges.punched("ba", false, 2);
        x.undo();
        Expect.same("holes", 1, x.punch(0, false, 1));
        Expect.same("mood", 0, x.halfOf(0, false, 1));
    }

    static void p11_eachVowelInEachMood() {
        int[][] due = {{1, 2, 3, 4, 5}, {2, 3, 4, 5, 1}, {3, 4, 5, 1, 2}, {4, 5, 1, 2, 3}, {5, 1, 2, 3, 4}};
        for (int vowel = 0; vowel < 5; vowel++) {
            for (int mood = 0; mood < 5; mood++) {
                FerryTickets x = Edges.withWords("b" + Edges.VOWELS.charAt(vowel));
                Edges.setMood(x, 0, mood);
                Expect.same("vowel " + vowel + ", mood " + mood, due[vowel][mood], x.punch(0, false, 0));
            }
        }
    }

    static void p11_fewestHoles() {
        FerryTickets x = Edges.withWords("bdklma");
        Expect.same("holes", 1, x.punch(0, false, 0));
    }

    static void p11_mostHoles() {
        FerryTickets x = Edges.withWords("uuuuuu");
        Expect.same("holes", 30, x.punch(0, true, 2));
    }

    static void p11_moodOfThatTimeIsKept() {
        FerryTickets x = Edges.punched("badu", false, 4);
        x.mood(0, 1);
        Expect.same("mood", 4, x.halfOf(0, false, 1));
        Expect.same("word", "badu", seen(x, false));
    }

    static void p11_lostAllTheSame() {
        FerryTickets x = one();
        x.lose(0, true);
        Expect.same("holes", 6, x.punch(0, true, 0));
        Expect.same("lost still", 1, x.halfOf(0, true, 5));
    }

    static void p11_wetAllTheSame() {
        FerryTickets x = one();
        x.wet(0, true, 9);
        Expect.same("holes punched", 6, x.punch(0, true, 0));
        Expect.same("holes left", 2, x.halfOf(0, true, 4));
    }

    // ---- 12: wet

    static void p12_noSuchTicket() {
        Edges.outside(Edges.INDEX, 0, ticket -> new FerryTickets().wet(ticket, false, 1));
        Edges.outside(Edges.INDEX, 2, ticket -> Edges.withTickets(2).wet(ticket, true, 9));
        Edges.unchanged(Edges.INDEX, Edges::rich, x -> x.wet(3, false, 1));
    }

    static void p12_numberOutOfRange() {
        Expect.argument("by 0", () -> one().wet(0, false, 0));
        Edges.outside(Edges.ARGUMENT, 10, by -> one().wet(0, false, by));
        Edges.unchanged(Edges.ARGUMENT, Edges::rich, x -> x.wet(0, true, 0));
        Edges.unchanged(Edges.ARGUMENT, Edges::rich, x -> x.wet(0, true, 10));
    }

    static void p12_ticketBeforeNumber() {
        Expect.index("both", () -> one().wet(1, false, 0));
        Expect.index("both", () -> one().wet(-1, true, 10));
    }

    static void p12_dryAtFirst() {
        for (boolean isReturn : HALVES) {
            Expect.same("wet", 0, one().halfOf(0, isReturn, 2));
        }
    }

    static void p12_oneToNine() {
        for (int by = 1; by <= 9; by++) {
            for (boolean isReturn : HALVES) {
                FerryTickets x = one();
                Expect.same("answer", by, x.wet(0, isReturn, by));
                Expect.same("wet", by, x.halfOf(0, isReturn, 2));
            }
        }
    }

    static void p12_theOtherGetsHalfRoundedDown() {
        int[] due = {0, 0, 1, 1, 2, 2, 3, 3, 4, 4};
        for (int by = 1; by <= 9; by++) {
            for (boolean isReturn : HALVES) {
                FerryTickets x = one();
                x.wet(0, isReturn, by);
                Expect.same("by " + by, due[by], x.halfOf(0, !isReturn, 2));
            }
        }
    }

    static void p12_oneAndOneAreNoHalf() {
        FerryTickets x = one();
        x.wet(0, false, 1);
        x.wet(0, false, 1);
        Expect.same("other", 0, x.halfOf(0, true, 2));
    }

    static void p12_halfOfWhatIsToldNotOfWhatItIs() {
        FerryTickets x = one();
        x.wet(0, false, 3);
        x.wet(0, false, 2);
        Expect.same("other", 2, x.halfOf(0, true, 2));
        FerryTickets y = one();
        y.wet(0, false, 5);
        y.wet(0, false, 9);
        Expect.same("though but 4 went in", 6, y.halfOf(0, true, 2));
    }

    static void p12_exactlyNine() {
        FerryTickets x = Edges.washed("ba", false, 0, 8);
        Expect.same("wet", 9, x.wet(0, false, 1));
    }

    static void p12_moreThanNine() {
        FerryTickets x = Edges.washed("ba", false, 0, 8);
        Expect.same("wet", 9, x.wet(0, false, 2));
        Expect.same("wet", 9, x.wet(0, false, 1));
        Expect.same("wet", 9, x.wet(0, false, 9));
        Expect.same("wet", 9, x.halfOf(0, false, 2));
    }

    static void p12_theOtherReachesNine() {
        for (boolean isReturn : HALVES) {
            FerryTickets x = one();
            x.wet(0, isReturn, 5);
            Expect.same("one", 9, x.wet(0, !isReturn, 9));
            Expect.same("other", 9, x.halfOf(0, isReturn, 2));
        }
    }

    static void p12_joinedAtFive() {
        FerryTickets x = one();
        x.wet(0, false, 5);
        Expect.same("torn", 0, x.ticketOf(0, 5));
        x.wet(0, true, 1);
        Expect.same("torn", 0, x.ticketOf(0, 5));
    }

    static void p12_bothAtFive() {
        FerryTickets x = one();
        x.wet(0, false, 4);
        x.wet(0, true, 3);
        Expect.same("out half", 5, x.halfOf(0, false, 2));
        Expect.same("return half", 5, x.halfOf(0, true, 2));
        Expect.same("torn", 0, x.ticketOf(0, 5));
    }

    static void p12_tornAtSix() {
        for (boolean isReturn : HALVES) {
            FerryTickets x = one();
            x.wet(0, isReturn, 6);
            Expect.same("torn", 1, x.ticketOf(0, 5));
            FerryTickets y = one();
            y.wet(0, isReturn, 5);
            y.wet(0, isReturn, 1);
            Expect.same("torn", 1, y.ticketOf(0, 5));
        }
    }

    static void p12_tornAsTheOtherGetsToSix() {
        for (boolean isReturn : HALVES) {
            FerryTickets x = one();
            x.wet(0, isReturn, 5);
            Expect.same("one", 4, x.wet(0, !isReturn, 2));
            Expect.same("other", 6, x.halfOf(0, isReturn, 2));
            Expect.same("torn", 1, x.ticketOf(0, 5));
        }
    }

    static void p12_theTearingWaterIsShared() {
        FerryTickets x = one();
        x.wet(0, true, 6);
        Expect.same("other", 3, x.halfOf(0, false, 2));
    }

    static void p12_tornHalvesShareNothing() {
        for (boolean isReturn : HALVES) {
            FerryTickets x = one();
            x.tear(0);
            x.wet(0, isReturn, 9);
            Expect.same("other", 0, x.halfOf(0, !isReturn, 2));
            FerryTickets y = one();
            y.wet(0, isReturn, 6);
            y.wet(0, isReturn, 9);
            Expect.same("other", 3, y.halfOf(0, !isReturn, 2));
        }
    }

    static void p12_eachThreeClosesOne() {
        int[] due = {5, 5, 5, 4, 4, 4, 3, 3, 3, 2};
        for (int wet = 0; wet <= 9; wet++) {
            Expect.same("wet " + wet, due[wet], Edges.washed("bu", true, 0, wet).halfOf(0, true, 4));
        }
    }

    static void p12_closesAsFarAsThereAreHoles() {
        for (int holes = 1; holes <= 5; holes++) {
            for (int wet = 0; wet <= 9; wet++) {
                FerryTickets x = Edges.washed("ba", false, holes - 1, wet);
                Expect.same(holes + " wet " + wet, Math.max(0, holes - wet / 3), x.halfOf(0, false, 4));
            }
        }
    }

    static void p12_closesAtEachPlaceApart() {
        FerryTickets x = Edges.washed("aeiou", false, 0, 6);
        Expect.same("holes", "00123", Expect.holeLine(x, 0, false));
    }

    static void p12_otherTicketsStayDry() {
        FerryTickets x = Edges.withTickets(3);
        x.wet(1, false, 9);
        Expect.same("mean", 13.0 / 6, x.meanWet());
    }

    static void p12_lostAllTheSame() {
        FerryTickets x = one();
        x.lose(0, false);
        Expect.same("wet", 4, x.wet(0, false, 4));
        Expect.same("other", 2, x.halfOf(0, true, 2));
    }

    static void p12_wetStaysWet() {
        FerryTickets x = one();
        x.wet(0, false, 9);
        x.lose(0, false);
        x.find(0, false);
        x.punch(0, false, 0);
        Edges.days(x, 9);
        Expect.same("wet", 9, x.halfOf(0, false, 2));
        Expect.same("other", 4, x.halfOf(0, true, 2));
    }

    // ---- 13: tear

    static void p13_noSuchTicket() {
        Edges.outside(Edges.INDEX, 0, ticket -> new FerryTickets().tear(ticket));
        Edges.outside(Edges.INDEX, 2, ticket -> Edges.withTickets(2).tear(ticket));
        Edges.unchanged(Edges.INDEX, Edges::rich, x -> x.tear(-1));
    }

    static void p13_tornAlready() {
        Edges.refused(3, 1, () -> Edges.office("nba:0>1/1;t0"), x -> x.tear(0));
    }

    static void p13_tornByWater() {
        Edges.refused(3, 1, () -> Edges.office("nba:0>1/1;w0o+6"), x -> x.tear(0));
        Edges.refused(3, 1, () -> Edges.office("nba:0>1/1;w0r+5;w0o+2"), x -> x.tear(0));
    }

    static void p13_notYetTornByWater() {
        Expect.same("torn", 1, Edges.office("nba:0>1/1;w0o+5").tear(0));
    }

    static void p13_oneToEightTorn() {
        FerryTickets x = Edges.withTickets(8);
        for (int ticket = 7; ticket >= 0; ticket--) {
            Expect.same("torn", 8 - ticket, x.tear(ticket));
        }
    }

    static void p13_notThoseThrownAway() {
        FerryTickets x = Edges.withTickets(2);
        x.tear(0);
        x.throwAway(0);
        Expect.same("torn", 1, x.tear(0));
    }

    // ---- 14: lose

    static void p14_noSuchTicket() {
        Edges.outside(Edges.INDEX, 0, ticket -> new FerryTickets().lose(ticket, false));
        Edges.outside(Edges.INDEX, 2, ticket -> Edges.withTickets(2).lose(ticket, true));
        Edges.unchanged(Edges.INDEX, Edges::rich, x -> x.lose(3, false));
    }

    static void p14_lostAlready() {
        for (boolean isReturn : HALVES) {
            Edges.refused(3, 1, () -> Edges.office("nba:0>1/1;t0;l0" + half(isReturn)), x -> x.lose(0, isReturn));
        }
    }

    private static String half(boolean isReturn) {
        return isReturn ? "r" : "o";
    }

    static void p14_lostWithTheOther() {
        for (boolean isReturn : HALVES) {
            Edges.refused(3, 1, () -> Edges.office("nba:0>1/1;l0" + half(isReturn)), x -> x.lose(0, !isReturn));
        }
    }

    static void p14_joinedLosesBoth() {
        for (boolean isReturn : HALVES) {
            FerryTickets x = one();
            Expect.same("lost", 2, x.lose(0, isReturn));
            Expect.same("out half", 1, x.halfOf(0, false, 5));
            Expect.same("return half", 1, x.halfOf(0, true, 5));
        }
    }

    static void p14_tornLosesOne() {
        for (boolean isReturn : HALVES) {
            FerryTickets x = one();
            x.tear(0);
            Expect.same("lost", 1, x.lose(0, isReturn));
            Expect.same("the other", 0, x.halfOf(0, !isReturn, 5));
            Expect.same("lost", 2, x.lose(0, !isReturn));
        }
    }

    static void p14_allSixteenHalves() {
        FerryTickets x = Edges.withTickets(8);
        for (int ticket = 0; ticket < 8; ticket++) {
            Expect.same("lost", 2 * ticket + 2, x.lose(ticket, true));
        }
    }

    // ---- 15: find

    static void p15_noSuchTicket() {
        Edges.outside(Edges.INDEX, 0, ticket -> new FerryTickets().find(ticket, false));
        Edges.outside(Edges.INDEX, 2, ticket -> Edges.withTickets(2).find(ticket, true));
        Edges.unchanged(Edges.INDEX, Edges::rich, x -> x.find(3, false));
    }

    static void p15_neverLost() {
        for (boolean isReturn : HALVES) {
            Edges.refused(3, 1, HalfEdgesTest::one, x -> x.find(0, isReturn));
        }
    }

    static void p15_foundWithTheOther() {
        for (boolean isReturn : HALVES) {
            Edges.refused(3, 1, () -> Edges.office("nba:0>1/1;l0o;f0" + half(isReturn)), x -> x.find(0, !isReturn));
        }
    }

    static void p15_joinedFindsBoth() {
        for (boolean isReturn : HALVES) {
            FerryTickets x = one();
            x.lose(0, false);
            Expect.same("lost", 0, x.find(0, isReturn));
            Expect.same("out half", 0, x.halfOf(0, false, 5));
            Expect.same("return half", 0, x.halfOf(0, true, 5));
        }
    }

    static void p15_tornWhileLostFindsOne() {
        for (boolean isReturn : HALVES) {
            FerryTickets x = one();
            x.lose(0, false);
            x.tear(0);
            Expect.same("lost", 1, x.find(0, isReturn));
            Expect.same("the other", 1, x.halfOf(0, !isReturn, 5));
        }
    }

    static void p15_tornByWaterWhileLost() {
        FerryTickets x = Edges.office("nba:0>1/1;l0o;w0r+6");
        Expect.same("lost", 1, x.find(0, false));
        Expect.same("the other", 1, x.halfOf(0, true, 5));
    }

    static void p15_lastOfSixteen() {
        FerryTickets x = Edges.withTickets(8);
        for (int ticket = 0; ticket < 8; ticket++) {
            x.lose(ticket, false);
        }
        for (int ticket = 7; ticket >= 0; ticket--) {
            Expect.same("lost", 2 * ticket, x.find(ticket, false));
        }
    }

    static void p15_asItWasButWet() {
        FerryTickets x = Edges.office("nbadu:0>1/1;m0=3;p0o=0;g0o;l0o;w0o+4;f0o");
        int[] due = {1, 3, 4, 7, 5, 0, 1, 2};
        for (int what = 0; what < 8; what++) {
            Expect.same("what " + what, due[what], x.halfOf(0, false, what));
        }
        Expect.same("return half", 2, x.halfOf(0, true, 2));
    }

    // ---- 16: halfOf

    static void p16_noSuchTicket() {
        Edges.outside(Edges.INDEX, 0, ticket -> new FerryTickets().halfOf(ticket, false, 0));
        Edges.outside(Edges.INDEX, 2, ticket -> Edges.withTickets(2).halfOf(ticket, true, 7));
        Edges.unchanged(Edges.INDEX, Edges::rich, x -> x.halfOf(3, true, 0));
    }

    static void p16_whatOutOfRange() {
        Edges.outside(Edges.ARGUMENT, 8, what -> one().halfOf(0, false, what));
        Edges.outside(Edges.ARGUMENT, 8, what -> Edges.punched("ba", true, 0).halfOf(0, true, what));
        Edges.unchanged(Edges.ARGUMENT, Edges::rich, x -> x.halfOf(0, true, 8));
    }

    static void p16_ticketBeforeWhat() {
        Expect.index("both", () -> one().halfOf(1, true, 8));
    }

    static void p16_notPunched() {
        FerryTickets x = one();
        int[] due = {0, -1, 0, 0, 0, 0, 0, 0};
        for (boolean isReturn : HALVES) {
            for (int what = 0; what < 8; what++) {
                Expect.same("what " + what, due[what], x.halfOf(0, isReturn, what));
            }
        }
    }

    static void p16_punchedInMoodZero() {
        FerryTickets x = Edges.punched("ba", false, 0);
        Expect.same("punched", 1, x.halfOf(0, false, 0));
        Expect.same("mood", 0, x.halfOf(0, false, 1));
        Expect.same("other", -1, x.halfOf(0, true, 1));
    }

    static void p16_punchedInMoodFour() {
        Expect.same("mood", 4, Edges.punched("ba", true, 4).halfOf(0, true, 1));
    }

    static void p16_wetAndNotPunched() {
        FerryTickets x = Edges.office("nba:0>1/1;w0o+9");
        Expect.same("wet", 9, x.halfOf(0, false, 2));
        Expect.same("punched", 0, x.halfOf(0, false, 3));
        Expect.same("left", 0, x.halfOf(0, false, 4));
        Expect.same("read", 0, x.halfOf(0, false, 7));
    }

    static void p16_noHoleLeft() {
        FerryTickets x = Edges.washed("baaa", false, 0, 3);
        Expect.same("punched", 3, x.halfOf(0, false, 3));
        Expect.same("left", 0, x.halfOf(0, false, 4));
        Expect.same("read", 1, x.halfOf(0, false, 7));
    }

    static void p16_holesPunchedStay() {
        FerryTickets x = Edges.washed("uuuuuu", true, 0, 9);
        Expect.same("punched", 30, x.halfOf(0, true, 3));
        Expect.same("left", 12, x.halfOf(0, true, 4));
    }

    static void p16_allLettersRead() {
        Expect.same("read", 6, Edges.punched("banana", false, 1).halfOf(0, false, 7));
        Expect.same("read", 2, Edges.washed("ub", true, 0, 2).halfOf(0, true, 7));
    }

    static void p16_noLetterRead() {
        Expect.same("read", 0, Edges.washed("aeiou", false, 0, 3).halfOf(0, false, 7));
    }

    static void p16_unreadIsNotAsPrinted() {
        Expect.same("read", 3, Edges.washed("aebdk", false, 0, 6).halfOf(0, false, 7));
    }

    static void p16_lostAndRidden() {
        FerryTickets x = Edges.office("nba:0>1/1;p0o=0;p0r=0;g0o;t0;l0r");
        Expect.same("out lost", 0, x.halfOf(0, false, 5));
        Expect.same("return lost", 1, x.halfOf(0, true, 5));
        Expect.same("out ridden", 1, x.halfOf(0, false, 6));
        Expect.same("return ridden", 0, x.halfOf(0, true, 6));
    }

    // ---- 17: readAt

    static void p17_noSuchTicket() {
        Edges.outside(Edges.INDEX, 0, ticket -> new FerryTickets().readAt(ticket, false, 0));
        Edges.outside(Edges.INDEX, 1, ticket -> Edges.punched("ba", true, 0).readAt(ticket, true, 0));
        Edges.unchanged(Edges.INDEX, Edges::rich, x -> x.readAt(3, true, 0));
    }

    static void p17_notPunched() {
        for (boolean isReturn : HALVES) {
            Edges.unchanged(Edges.ELEMENT, HalfEdgesTest::one, x -> x.readAt(0, isReturn, 0));
            Edges.unchanged(Edges.ELEMENT, () -> Edges.punched("ba", !isReturn, 0), x -> x.readAt(0, isReturn, 0));
        }
    }

    static void p17_noSuchPlace() {
        Edges.outside(Edges.ELEMENT, 2, place -> Edges.punched("ba", false, 0).readAt(0, false, place));
        Edges.outside(Edges.ELEMENT, 6, place -> Edges.punched("banana", true, 0).readAt(0, true, place));
        Edges.unchanged(Edges.ELEMENT, Edges::rich, x -> x.readAt(0, false, 4));
    }

    static void p17_ticketBeforePlace() {
        Expect.index("both", () -> one().readAt(1, false, 9));
    }

    static void p17_firstAndLastPlace() {
        FerryTickets x = Edges.punched("ustibo", true, 1);
        Expect.same("first", 'u', x.readAt(0, true, 0));
        Expect.same("last", 'o', x.readAt(0, true, 5));
    }

    static void p17_eachConsonantAsItIs() {
        for (char letter : Edges.LETTERS.substring(0, 9).toCharArray()) {
            FerryTickets x = Edges.washed(letter + "a", false, 0, 9);
            Expect.same("" + letter, letter, x.readAt(0, false, 0));
        }
    }

    static void p17_eachVowelInEachMoodDry() {
        for (int mood = 0; mood < 5; mood++) {
            for (int wet = 0; wet < 3; wet++) {
                Expect.same("mood " + mood, "aeiou", seen(Edges.washed("aeiou", true, mood, wet), true));
            }
        }
    }

    static void p17_eachMoodWet() {
        String[][] due = {
            {"?aeio", "??aei", "???ae"},
            {"uaei?", "?uae?", "??ua?"},
            {"uae?o", "oua??", "?ou??"},
            {"ua?io", "ou??i", "io???"},
            {"u?eio", "o??ei", "i???e"}};
        for (int mood = 0; mood < 5; mood++) {
            for (int closed = 1; closed <= 3; closed++) {
                FerryTickets x = Edges.washed("aeiou", true, mood, 3 * closed);
                Expect.same("mood " + mood + ", wet " + 3 * closed, due[mood][closed - 1], seen(x, true));
            }
        }
    }

    static void p17_theLastHole() {
        FerryTickets x = Edges.washed("be", false, 0, 3);
        Expect.same("one hole left", 'a', x.readAt(0, false, 1));
        x.wet(0, false, 2);
        Expect.same("one hole left", 'a', x.readAt(0, false, 1));
        x.wet(0, false, 1);
        Expect.same("no hole left", '?', x.readAt(0, false, 1));
    }

    static void p17_roundBelowZero() {
        FerryTickets x = Edges.washed("ba", false, 4, 3);
        Expect.same("of mood 4", 'u', x.readAt(0, false, 1));
        x.wet(0, false, 3);
        Expect.same("of mood 4", 'o', x.readAt(0, false, 1));
        x.wet(0, false, 3);
        Expect.same("of mood 4", 'i', x.readAt(0, false, 1));
    }

    static void p17_punchedAfterTheWater() {
        FerryTickets x = one();
        x.wet(0, false, 3);
        x.punch(0, false, 0);
        Expect.same("word", "b?do", seen(x, false));
    }

    static void p17_lostAllTheSame() {
        FerryTickets x = Edges.punched("badu", false, 0);
        x.lose(0, false);
        Expect.same("word", "badu", seen(x, false));
    }

    static void p17_moodToldLaterIsNoMatter() {
        FerryTickets x = Edges.washed("badu", false, 2, 3);
        String before = seen(x, false);
        x.mood(0, 0);
        Expect.same("word", before, seen(x, false));
    }

    // ---- 18: doAgree

    static void p18_noSuchTicket() {
        for (boolean isAgain : HALVES) {
            Edges.outside(Edges.INDEX, 0, ticket -> new FerryTickets().doAgree(ticket, isAgain));
            Edges.outside(Edges.INDEX, 2, ticket -> Edges.withTickets(2).doAgree(ticket, isAgain));
            Edges.unchanged(Edges.INDEX, Edges::rich, x -> x.doAgree(3, isAgain));
        }
    }

    private static void agree(boolean due, String... texts) {
        for (boolean isAgain : HALVES) {
            Expect.same(String.join(" ", texts), due, Edges.office(texts).doAgree(0, isAgain));
        }
    }

    static void p18_noneIsPunched() {
        agree(false, "nba:0>1/1");
    }

    static void p18_oneIsNotPunched() {
        agree(false, "nba:0>1/1;p0o=0");
        agree(false, "nba:0>1/1;p0r=0");
    }

    static void p18_unreadIsNotLikeNotPunched() {
        agree(false, "nab:0>1/1;w0o+9;p0o=0");
        agree(false, "nab:0>1/1;w0r+9;p0r=0");
    }

    static void p18_bothDry() {
        for (int mood = 1; mood < 5; mood++) {
            agree(true, "naeiou:0>1/1;m1=" + mood + ";p0o=0;p0r=1");
            agree(true, "naeiou:0>1/1;m1=" + mood + ";p0o=1;p0r=0");
        }
    }

    static void p18_bothUnread() {
        agree(true, "nba:0>1/1;m1=1;p0o=0;p0r=1;t0;w0o+3;w0r+6");
        agree(true, "nba:0>1/1;p0o=0;p0r=0;t0;w0o+9;w0r+9");
    }

    static void p18_oneUnread() {
        agree(false, "nba:0>1/1;p0o=0;p0r=0;t0;w0o+3");
        agree(false, "nba:0>1/1;p0o=0;p0r=0;t0;w0r+3");
    }

    static void p18_unreadIsNoVowel() {
        // No hole in mood 0 leaves the remainder 4, as the "u" that is read on the other half does.
        agree(false, "nba:0>1/1;m0=4;p0o=1;p0r=0;t0;w0o+3;w0r+3");
        agree(false, "nba:0>1/1;m0=4;p0o=0;p0r=1;t0;w0o+3;w0r+3");
    }

    static void p18_bothWetAlike() {
        agree(true, "nbiu:0>1/1;m1=2;p0o=0;p0r=1;t0;w0o+3;w0r+3");
        agree(true, "nbu:0>1/1;m0=3;p0o=0;p0r=1;t0;w0o+5;w0r+4");
    }

    static void p18_bothWetUnlike() {
        agree(false, "nbu:0>1/1;p0o=0;p0r=1;t0;w0o+3;w0r+6");
        agree(false, "nbu:0>1/1;p0o=0;p0r=1;t0;w0o+2;w0r+3");
    }

    static void p18_unlikeAtTheFirstOrLastPlace() {
        agree(false, "nubdkl:0>1/1;p0o=0;p0r=0;w0r+3");
        agree(false, "nbdklmu:0>1/1;p0o=0;p0r=0;w0o+3");
    }

    static void p18_lostHalves() {
        agree(true, "nba:0>1/1;p0o=0;p0r=0;l0o");
    }

    // ---- 19: moodFor

    static void p19_noSuchTicket() {
        Edges.outside(Edges.INDEX, 0, ticket -> new FerryTickets().moodFor(ticket, false));
        Edges.outside(Edges.INDEX, 1, ticket -> Edges.punched("ba", true, 0).moodFor(ticket, true));
        Edges.unchanged(Edges.INDEX, Edges::rich, x -> x.moodFor(3, true));
    }

    static void p19_notPunched() {
        for (boolean isReturn : HALVES) {
            Edges.unchanged(Edges.ELEMENT, HalfEdgesTest::one, x -> x.moodFor(0, isReturn));
            Edges.unchanged(Edges.ELEMENT, () -> Edges.punched("ba", !isReturn, 0), x -> x.moodFor(0, isReturn));
        }
    }

    static void p19_noMood() {
        Edges.unchanged(Edges.ELEMENT, () -> Edges.washed("ba", false, 0, 3), x -> x.moodFor(0, false));
        Edges.unchanged(Edges.ELEMENT, () -> Edges.washed("uuuuua", true, 0, 3), x -> x.moodFor(0, true));
        Edges.unchanged(Edges.ELEMENT, () -> Edges.washed("auuuuu", true, 0, 9), x -> x.moodFor(0, true));
    }

    static void p19_dryTheMoodItself() {
        for (int mood = 0; mood < 5; mood++) {
            Expect.same("mood", mood, Edges.washed("badu", true, mood, 2).moodFor(0, true));
        }
    }

    static void p19_roundBelowZero() {
        Expect.same("of mood 0", 4, Edges.washed("bu", false, 0, 3).moodFor(0, false));
        Expect.same("of mood 0", 3, Edges.washed("bu", false, 0, 6).moodFor(0, false));
        Expect.same("of mood 0", 2, Edges.washed("bu", false, 0, 9).moodFor(0, false));
        Expect.same("of mood 1", 4, Edges.washed("bo", false, 1, 6).moodFor(0, false));
    }

    static void p19_wetEachMood() {
        for (int mood = 1; mood < 5; mood++) {
            Expect.same("mood", mood - 1, Edges.washed("ba", false, mood, 3).moodFor(0, false));
        }
    }

    static void p19_asItIsNow() {
        FerryTickets x = Edges.punched("bu", false, 0);
        x.mood(0, 3);
        Expect.same("not the puncher's", 0, x.moodFor(0, false));
        x.lose(0, false);
        Expect.same("lost", 0, x.moodFor(0, false));
    }

    // ---- 20: would

    static void p20_noSuchTicket() {
        Edges.outside(Edges.INDEX, 0, ticket -> new FerryTickets().would(ticket, false, 0));
        Edges.outside(Edges.INDEX, 1, ticket -> Edges.punched("ba", true, 0).would(ticket, true, 0));
        Edges.unchanged(Edges.INDEX, Edges::rich, x -> x.would(3, true, 0));
    }

    static void p20_numberOutOfRange() {
        Edges.outside(Edges.ARGUMENT, 10, by -> Edges.punched("ba", false, 0).would(0, false, by));
        Edges.unchanged(Edges.ARGUMENT, Edges::rich, x -> x.would(0, false, 10));
    }

    static void p20_notPunched() {
        for (boolean isReturn : HALVES) {
            Edges.unchanged(Edges.ELEMENT, HalfEdgesTest::one, x -> x.would(0, isReturn, 0));
            Edges.unchanged(Edges.ELEMENT, () -> Edges.punched("ba", !isReturn, 0), x -> x.would(0, isReturn, 9));
        }
    }

    static void p20_ticketBeforeNumber() {
        Expect.index("both", () -> one().would(1, false, 10));
        Expect.index("both", () -> one().would(-1, false, -1));
    }

    static void p20_numberBeforeNotPunched() {
        Expect.argument("both", () -> one().would(0, false, 10));
        Expect.argument("both", () -> one().would(0, true, -1));
    }

    static void p20_byZero() {
        Expect.same("dry", 4, Edges.punched("badu", false, 0).would(0, false, 0));
        Expect.same("wet", 2, Edges.washed("badu", false, 0, 3).would(0, false, 0));
    }

    static void p20_eachThree() {
        int[] due = {3, 3, 3, 1, 1, 1, 1, 1, 1, 1};
        for (int by = 0; by <= 9; by++) {
            Expect.same("by " + by, due[by], Edges.punched("aub", true, 0).would(0, true, by));
        }
    }

    static void p20_withWhatItIsWetBy() {
        Expect.same("2 and 0", 2, Edges.washed("ba", false, 0, 2).would(0, false, 0));
        Expect.same("2 and 1", 1, Edges.washed("ba", false, 0, 2).would(0, false, 1));
    }

    static void p20_moreThanNineTogether() {
        // A vowel is read as printed while no hole is closed, and again when 5 are: of 5 holes none is left then.
        for (int wet = 1; wet <= 9; wet++) {
            for (int mood = 0; mood < 5; mood++) {
                Expect.same("wet " + wet, 1, Edges.washed("aeioub", false, mood, wet).would(0, false, 9));
            }
        }
    }

    static void p20_nothingGetsWet() {
        Edges.onlyAsks(() -> Edges.punched("badu", false, 0), x -> x.would(0, false, 9));
    }

    // ---- 21: likely

    static void p21_noSuchTicket() {
        Edges.outside(Edges.INDEX, 0, ticket -> new FerryTickets().likely(ticket, false));
        Edges.outside(Edges.INDEX, 1, ticket -> Edges.punched("ba", true, 0).likely(ticket, true));
        Edges.unchanged(Edges.INDEX, Edges::rich, x -> x.likely(3, true));
    }

    static void p21_notPunched() {
        for (boolean isReturn : HALVES) {
            Edges.unchanged(Edges.ELEMENT, HalfEdgesTest::one, x -> x.likely(0, isReturn));
            Edges.unchanged(Edges.ELEMENT, () -> Edges.punched("ba", !isReturn, 0), x -> x.likely(0, isReturn));
        }
    }

    static void p21_oneTicketAlone() {
        Expect.same("dry", 0, Edges.punched("ba", false, 0).likely(0, false));
        Expect.same("all unread", 0, Edges.washed("aaaaaa", false, 0, 9).likely(0, false));
    }

    private static int likelyOf(int ticket, int wet, String... words) {
        FerryTickets x = Edges.withWords(words);
        x.punch(ticket, false, 0);
        if (wet > 0) {
            x.wet(ticket, false, wet);
        }
        return x.likely(ticket, false);
    }

    static void p21_ofSeveralTheLowest() {
        Expect.same("like words", 1, likelyOf(7, 0, "ba", "du", "du", "ba", "du", "ku", "du", "du"));
        Expect.same("as near", 0, likelyOf(1, 0, "du", "du"));
        Expect.same("as near, unlike words", 0, likelyOf(2, 3, "ka", "ta", "le"));
    }

    static void p21_theNearestIsTheLast() {
        Expect.same("wet", 7, likelyOf(0, 3, "bu", "ba", "be", "bi", "du", "da", "de", "bo"));
        Expect.same("dry", 7, likelyOf(7, 0, "ba", "be", "bi", "bo", "da", "de", "di", "bu"));
    }

    static void p21_notItself() {
        Expect.same("read as bo", 1, likelyOf(0, 3, "bu", "bo"));
        Expect.same("read as bo", 0, likelyOf(1, 3, "bo", "bu"));
    }

    static void p21_unreadIsUnlike() {
        // "b?" is 1 letter from each word with a b: the "?" is like no vowel.
        Expect.same("lowest", 0, likelyOf(2, 3, "bu", "be", "ba"));
        Expect.same("nearest", 1, likelyOf(2, 3, "du", "be", "ba"));
    }

    static void p21_lettersThatJustOneHas() {
        Expect.same("longer", 1, likelyOf(2, 3, "bodddd", "bod", "bu"));
        Expect.same("shorter", 1, likelyOf(2, 3, "bo", "booo", "buuuu"));
        Expect.same("as long as it", 1, likelyOf(2, 3, "bodd", "bi", "bu"));
    }

    static void p21_eachPlaceCounts() {
        Expect.same("first", 1, likelyOf(1, 0, "dadada", "badada"));
        Expect.same("last", 1, likelyOf(1, 0, "dadade", "dadada"));
        Expect.same("in the middle", 1, likelyOf(1, 0, "dabada", "dadada"));
    }

    static void p21_placeByPlace() {
        // "boboko" has all letters of "oboko", but none at its place.
        Expect.same("moved by a place", 1, likelyOf(1, 3, "oboko", "bubuku"));
    }

    static void p21_sixAndFiveUnlike() {
        FerryTickets x = Edges.withWords("kkkkka", "aeiou");
        x.punch(1, false, 0);
        x.wet(1, false, 9);
        Expect.same("the later one is nearer", 1, x.likely(1, false));
    }

    static void p21_sixUnlike() {
        FerryTickets x = Edges.withWords("babab", "aaaaaa");
        x.punch(1, true, 0);
        x.wet(1, true, 9);
        Expect.same("all as far, the lowest", 0, x.likely(1, true));
    }
}
