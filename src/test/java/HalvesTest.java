/** Promises 11 to 21. */
public final class HalvesTest {
    private static final String VOWELS = "aeiou";

    public static void main(String[] args) {
        punch();
        wet();
        tear();
        loseAndFind();
        halfOf();
        readAt();
        doAgree();
        moodFor();
        would();
        likely();
        Expect.end("HalvesTest");
    }

    private static FerryTickets withWord(String word) {
        FerryTickets x = new FerryTickets();
        Expect.print(x, word, 0, 1, 1);
        return x;
    }

    private static void punch() {
        for (int mood = 0; mood < 5; mood++) {
            for (int vowel = 0; vowel < 5; vowel++) {
                FerryTickets x = withWord("b" + VOWELS.charAt(vowel));
                if (mood > 0) {
                    x.mood(2, mood);
                }
                int due = 1 + (vowel + mood) % 5;
                Expect.same("11: vowel " + vowel + " mood " + mood, due, x.punch(0, true, 2));
            }
        }
        FerryTickets x = withWord("aubeio");
        Expect.index("11: no ticket", () -> x.punch(1, false, 0));
        Expect.index("11: ticket below", () -> x.punch(-1, false, 0));
        Expect.index("11: no puncher", () -> x.punch(0, false, 3));
        Expect.index("11: puncher below", () -> x.punch(0, false, -1));
        Expect.same("11: sum", 15, x.punch(0, false, 0));
        Expect.refused("11: twice", x, 3, 1, () -> x.punch(0, false, 1));
        Expect.index("11: no puncher comes first", () -> x.punch(0, false, 3));
        Expect.same("11: the other half is not punched", 0, x.halfOf(0, true, 0));
        x.lose(0, true);
        x.wet(0, true, 9);
        x.mood(1, 3);
        Expect.same("11: lost and wet all the same", 15, x.punch(0, true, 1));
        Expect.same("11: holes left", 3, x.halfOf(0, true, 4));
        Expect.same("11: holes so far", 30, x.account(11));
        x.mood(1, 4);
        Expect.same("11: the mood is kept", 3, x.halfOf(0, true, 1));
    }

    private static void wet() {
        FerryTickets x = withWord("ba");
        Expect.index("12: no ticket", () -> x.wet(1, false, 0));
        Expect.index("12: below", () -> x.wet(-1, false, 1));
        Expect.argument("12: by 0", () -> x.wet(0, false, 0));
        Expect.argument("12: by 10", () -> x.wet(0, false, 10));
        Expect.same("12: by 1", 1, x.wet(0, false, 1));
        Expect.same("12: half of 1", 0, x.halfOf(0, true, 2));
        Expect.same("12: by 3", 3, x.wet(0, true, 3));
        Expect.same("12: half of 3", 2, x.halfOf(0, false, 2));
        Expect.same("12: joined", 0, x.ticketOf(0, 5));
        Expect.same("12: by 2", 5, x.wet(0, true, 2));
        Expect.same("12: joined at 5", 0, x.ticketOf(0, 5));
        Expect.same("12: to 9", 9, x.wet(0, true, 8));
        Expect.same("12: half of what is told", 7, x.halfOf(0, false, 2));
        Expect.same("12: torn", 1, x.ticketOf(0, 5));
        Expect.same("12: torn halves alone", 8, x.wet(0, false, 1));
        Expect.same("12: never more than 9", 9, x.wet(0, false, 9));
        Expect.same("12: 9 stays", 9, x.wet(0, true, 9));
        FerryTickets y = withWord("ba");
        y.wet(0, false, 4);
        Expect.same("12: torn by the other half", 5, y.wet(0, true, 3));
        Expect.same("12: not yet", 0, y.ticketOf(0, 5));
        y.undo();
        Expect.same("12: by 5", 7, y.wet(0, true, 5));
        Expect.same("12: both at 6", 6, y.halfOf(0, false, 2));
        FerryTickets z = withWord("ba");
        z.wet(0, false, 5);
        z.undo();
        z.wet(0, false, 5);
        Expect.same("12: half of 5", 2, z.halfOf(0, true, 2));
        Expect.same("12: the other half gets to 6", 0, z.ticketOf(0, 5));
        z.undo();
        z.wet(0, false, 4);
        z.wet(0, true, 2);
        Expect.same("12: 5 and 4", 5, z.halfOf(0, false, 2));
        z.lose(0, true);
        Expect.same("12: a lost half gets wet", 6, z.wet(0, true, 2));
        Expect.same("12: torn then", 1, z.account(4));
        Expect.same("12: the last half of 2", 6, z.halfOf(0, false, 2));
        FerryTickets v = withWord("ba");
        v.wet(0, false, 5);
        Expect.same("12: 2 and 3", 5, v.wet(0, true, 3));
        Expect.same("12: the one that is told is below 6", 6, v.halfOf(0, false, 2));
        Expect.same("12: torn by the other", 1, v.ticketOf(0, 5));
    }

    private static void tear() {
        FerryTickets x = withWord("ba");
        Expect.print(x, "ba", 0, 1, 1);
        Expect.index("13: no ticket", () -> x.tear(2));
        Expect.index("13: below", () -> x.tear(-1));
        Expect.same("13: tear", 1, x.tear(1));
        Expect.refused("13: torn already", x, 3, 1, () -> x.tear(1));
        x.wet(1, true, 8);
        Expect.same("13: no water for the other half", 0, x.halfOf(1, false, 2));
        x.wet(0, true, 6);
        Expect.refused("13: torn by water", x, 3, 1, () -> x.tear(0));
        Expect.same("13: both", 2, x.account(4));
    }

    private static void loseAndFind() {
        FerryTickets x = withWord("ba");
        Expect.print(x, "du", 0, 1, 1);
        Expect.index("14: no ticket", () -> x.lose(2, true));
        Expect.index("14: below", () -> x.lose(-1, true));
        Expect.index("15: no ticket", () -> x.find(2, true));
        Expect.index("15: below", () -> x.find(-1, true));
        Expect.refused("15: found already", x, 3, 1, () -> x.find(0, false));
        Expect.refused("15: found already", x, 3, 1, () -> x.find(0, true));
        Expect.same("14: joined", 2, x.lose(0, true));
        Expect.same("14: out half", 1, x.halfOf(0, false, 5));
        Expect.refused("14: lost already", x, 3, 1, () -> x.lose(0, false));
        Expect.refused("14: lost already", x, 3, 1, () -> x.lose(0, true));
        Expect.same("15: joined", 0, x.find(0, false));
        Expect.same("15: return half", 0, x.halfOf(0, true, 5));
        x.tear(1);
        Expect.same("14: torn", 1, x.lose(1, true));
        Expect.same("14: the out half is not", 0, x.halfOf(1, false, 5));
        Expect.same("14: torn, the other", 2, x.lose(1, false));
        Expect.same("14: and the first ticket", 4, x.lose(0, false));
        x.wet(0, false, 6);
        Expect.same("15: torn while lost", 3, x.find(0, false));
        Expect.same("15: still lost", 1, x.halfOf(0, true, 5));
        Expect.same("15: wet by what came meanwhile", 6, x.halfOf(0, false, 2));
        Expect.same("15: torn", 2, x.find(1, true));
    }

    private static void halfOf() {
        FerryTickets x = withWord("kuli");
        Expect.index("16: no ticket", () -> x.halfOf(1, true, 8));
        Expect.index("16: below", () -> x.halfOf(-1, true, 0));
        Expect.argument("16: what 8", () -> x.halfOf(0, true, 8));
        Expect.argument("16: what -1", () -> x.halfOf(0, true, -1));
        int[] fresh = {0, -1, 0, 0, 0, 0, 0, 0};
        for (int what = 0; what < 8; what++) {
            Expect.same("16: fresh " + what, fresh[what], x.halfOf(0, true, what));
        }
        x.mood(1, 3);
        x.punch(0, false, 1);
        x.wet(0, false, 4);
        x.tear(0);
        x.lose(0, false);
        // u and mood 3 make 3 holes, i and mood 3 make 1.
        int[] due = {1, 3, 4, 4, 2, 1, 0, 2};
        for (int what = 0; what < 8; what++) {
            Expect.same("16: what " + what, due[what], x.halfOf(0, false, what));
        }
        int[] other = {0, -1, 2, 0, 0, 0, 0, 0};
        for (int what = 0; what < 8; what++) {
            Expect.same("16: other " + what, other[what], x.halfOf(0, true, what));
        }
        FerryTickets y = withWord("ba");
        y.punch(0, false, 0);
        y.ride(0, false);
        Expect.same("16: ridden", 1, y.halfOf(0, false, 6));
        Expect.same("16: the return half is not", 0, y.halfOf(0, true, 6));
        Expect.same("16: all letters", 2, y.halfOf(0, false, 7));
    }

    private static void readAt() {
        FerryTickets x = withWord("badu");
        Expect.index("17: no ticket", () -> x.readAt(1, false, 0));
        Expect.index("17: below", () -> x.readAt(-1, false, 0));
        Expect.element("17: not punched", () -> x.readAt(0, false, 0));
        x.mood(0, 3);
        x.punch(0, false, 0);
        Expect.element("17: place 4", () -> x.readAt(0, false, 4));
        Expect.element("17: place -1", () -> x.readAt(0, false, -1));
        Expect.element("17: the return half is not", () -> x.readAt(0, true, 0));
        Expect.same("17: dry", "badu", seen(x, false));
        x.wet(0, false, 2);
        Expect.same("17: wet by 2", "badu", seen(x, false));
        x.wet(0, false, 1);
        Expect.same("17: wet by 3", "budo", seen(x, false));
        x.mood(0, 4);
        x.lose(0, false);
        Expect.same("17: lost, and the mood is kept", "budo", seen(x, false));
        x.wet(0, false, 3);
        Expect.same("17: wet by 6", "bodi", seen(x, false));
        x.wet(0, false, 3);
        Expect.same("17: wet by 9", "bid?", seen(x, false));
        x.mood(1, 1);
        x.wet(0, true, 1);
        x.punch(0, true, 1);
        Expect.same("17: wet before the punch", "bud?", seen(x, true));
        for (int mood = 0; mood < 5; mood++) {
            FerryTickets y = withWord("aeioub");
            if (mood > 0) {
                y.mood(0, mood);
            }
            y.punch(0, true, 0);
            Expect.same("17: each mood", "aeioub", seen(y, true));
        }
    }

    private static String seen(FerryTickets x, boolean isReturn) {
        StringBuilder text = new StringBuilder();
        for (int place = 0; place < x.ticketOf(0, 0); place++) {
            text.append(x.readAt(0, isReturn, place));
        }
        return text.toString();
    }

    private static void doAgree() {
        for (int way = 0; way < 2; way++) {
            boolean isAgain = way == 1;
            FerryTickets x = withWord("badu");
            Expect.index("18: no ticket", () -> x.doAgree(1, isAgain));
            Expect.index("18: below", () -> x.doAgree(-1, isAgain));
            Expect.same("18: none is punched", false, x.doAgree(0, isAgain));
            x.mood(1, 3);
            x.punch(0, false, 0);
            Expect.same("18: one is punched", false, x.doAgree(0, isAgain));
            x.punch(0, true, 1);
            Expect.same("18: other moods, one word", true, x.doAgree(0, isAgain));
            x.tear(0);
            x.wet(0, true, 3);
            Expect.same("18: other words", false, x.doAgree(0, isAgain));
            x.wet(0, false, 3);
            Expect.same("18: a letter and none", false, x.doAgree(0, isAgain));
            x.clear();
            Expect.print(x, "ba", 0, 1, 1);
            x.punch(0, false, 0);
            x.mood(1, 1);
            x.punch(0, true, 1);
            x.tear(0);
            x.wet(0, false, 3);
            x.wet(0, true, 6);
            Expect.same("18: none is like none", true, x.doAgree(0, isAgain));
            x.lose(0, true);
            Expect.same("18: lost halves too", true, x.doAgree(0, isAgain));
            Expect.print(x, "ba", 0, 1, 1);
            x.punch(1, true, 0);
            x.wet(1, true, 3);
            Expect.same("18: none and not punched", false, x.doAgree(1, isAgain));
        }
    }

    private static void moodFor() {
        FerryTickets x = withWord("badu");
        Expect.index("19: no ticket", () -> x.moodFor(1, true));
        Expect.index("19: below", () -> x.moodFor(-1, true));
        Expect.element("19: not punched", () -> x.moodFor(0, true));
        x.mood(1, 3);
        x.punch(0, true, 1);
        x.tear(0);
        Expect.same("19: dry", 3, x.moodFor(0, true));
        x.wet(0, true, 3);
        Expect.same("19: wet by 3", 2, x.moodFor(0, true));
        x.wet(0, true, 3);
        Expect.same("19: wet by 6", 1, x.moodFor(0, true));
        x.wet(0, true, 3);
        Expect.element("19: no hole is left", () -> x.moodFor(0, true));
        FerryTickets y = withWord("be");
        y.mood(0, 4);
        y.punch(0, false, 0);
        Expect.same("19: mood 4", 4, y.moodFor(0, false));
        FerryTickets z = withWord("bu");
        z.punch(0, false, 0);
        Expect.same("19: mood 0", 0, z.moodFor(0, false));
        z.wet(0, false, 3);
        Expect.same("19: round the end", 4, z.moodFor(0, false));
    }

    private static void would() {
        FerryTickets x = withWord("badu");
        Expect.index("20: no ticket", () -> x.would(1, false, 10));
        Expect.index("20: below", () -> x.would(-1, false, 0));
        Expect.argument("20: by -1", () -> x.would(0, false, -1));
        Expect.argument("20: by 10", () -> x.would(0, false, 10));
        Expect.element("20: not punched", () -> x.would(0, false, 0));
        x.punch(0, false, 0);
        Expect.same("20: by 0", 4, x.would(0, false, 0));
        Expect.same("20: by 2", 4, x.would(0, false, 2));
        Expect.same("20: by 3", 2, x.would(0, false, 3));
        x.wet(0, false, 1);
        Expect.same("20: 1 and 2", 2, x.would(0, false, 2));
        Expect.same("20: 1 and 1", 4, x.would(0, false, 1));
        Expect.same("20: nothing gets wet", 1, x.halfOf(0, false, 2));
        FerryTickets y = withWord("bu");
        y.mood(0, 1);
        y.punch(0, false, 0);
        Expect.same("20: one hole", 1, y.would(0, false, 9));
        FerryTickets z = withWord("ba");
        z.mood(0, 4);
        z.punch(0, false, 0);
        z.wet(0, false, 9);
        Expect.same("20: no more than 9", "b2", Expect.holeLine(z, 0, false));
        Expect.same("20: no more than 9", 1, z.would(0, false, 9));
    }

    private static void likely() {
        FerryTickets x = withWord("badu");
        Expect.index("21: no ticket", () -> x.likely(1, false));
        Expect.index("21: below", () -> x.likely(-1, false));
        Expect.element("21: not punched", () -> x.likely(0, false));
        Expect.print(x, "budo", 1, 2, 1);
        x.mood(0, 3);
        x.punch(0, false, 0);
        x.tear(0);
        Expect.same("21: dry", 0, x.likely(0, false));
        x.wet(0, false, 3);
        Expect.same("21: read as another word", 1, x.likely(0, false));
        FerryTickets y = withWord("banana");
        Expect.print(y, "ba", 0, 1, 1);
        Expect.print(y, "bod", 0, 1, 1);
        y.punch(1, true, 0);
        y.tear(1);
        Expect.same("21: itself", 1, y.likely(1, true));
        y.wet(1, true, 3);
        Expect.same("21: b? is nearest to ba", 1, y.likely(1, true));
        y.throwAway(1);
        Expect.print(y, "ba", 0, 1, 1);
        y.punch(0, false, 0);
        y.tear(0);
        y.wet(0, false, 9);
        Expect.same("21: b?n?n? is nearest to itself", 0, y.likely(0, false));
        FerryTickets z = withWord("ba");
        Expect.print(z, "be", 0, 1, 1);
        Expect.print(z, "be", 0, 1, 1);
        z.punch(2, false, 0);
        Expect.same("21: of several the lowest", 1, z.likely(2, false));
        z.wet(2, false, 6);
        Expect.same("21: ? is like none", 0, z.likely(2, false));
        FerryTickets u = withWord("da");
        Expect.print(u, "ba", 0, 1, 1);
        u.punch(1, false, 0);
        Expect.same("21: the first letter counts", 1, u.likely(1, false));
        FerryTickets v = withWord("kkkkka");
        Expect.print(v, "aeiou", 0, 1, 1);
        v.punch(1, false, 0);
        v.wet(1, false, 9);
        Expect.same("21: ???ae, 6 and 5 apart", 1, v.likely(1, false));
        FerryTickets w = withWord("bbaa");
        Expect.print(w, "bbu", 0, 1, 1);
        Expect.print(w, "bbudd", 0, 1, 1);
        w.punch(2, false, 0);
        w.tear(2);
        w.wet(2, false, 3);
        Expect.same("21: bbodd", "bbodd", Expect.line(w, 2).substring(0, 5));
        Expect.same("21: one place unlike", 2, w.likely(2, false));
        w.throwAway(2);
        w.punch(1, false, 0);
        w.tear(1);
        w.wet(1, false, 3);
        Expect.same("21: bbo", 1, w.likely(1, false));
    }
}
