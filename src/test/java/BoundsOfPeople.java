/** Promises 1 to 3 and 15 to 17: a new object, PEOPLE, and what is so. */
final class BoundsOfPeople {
    private static final int NONE = Polls.NONE;

    private BoundsOfPeople() {
    }

    // ---- promise 1

    @Sentence(promise = 1, says = "An object is used for at most 512 calls after it has been made")
    static void the512thCallIsAsGoodAsTheFirst(Due d) {
        TruePoll x = new TruePoll();
        PlainPoll plain = new PlainPoll();
        for (int p = 0; p < 8; p++) {
            d.is("person", x.person(p, p % 4), plain.person(p, p % 4));
        }
        for (int call = 9; call <= 508; call++) {
            d.is("day(1) as call " + call, x.day(1), plain.day(1));
        }
        d.is("undo() as call 509", x.undo(), 29);
        d.is("is(0) as call 510", x.is(0), 499);
        plain.undo();
        d.is("is(1) as call 511", x.is(1), plain.is(1));
        d.is("tell(8) as call 512", x.tell(8), plain.tell(8));
    }

    @Sentence(promise = 1, says = "The constants: `NONE = -1`: None.")
    static void noneIsMinusOne(Due d) {
        d.is("NONE", TruePoll.NONE, -1);
    }

    @Sentence(promise = 1, says = "Nobody; THE IMAGE is this.")
    static void nobodyIsThere(Due d) {
        TruePoll x = new TruePoll();
        int[] about = {0, 0, NONE, 0, 0, 0};
        for (int what = 0; what <= 5; what++) {
            d.is("about(" + what + ")", x.about(what), about[what]);
        }
        d.is("of(0, 0)", x.of(0, 0), -10);
        d.is("book(NONE, 0)", x.book(NONE, 0), 0);
        d.is("undo()", x.undo(), NONE);
    }

    @Sentence(promise = 1, says = "THE IMAGE is this.")
    static void backAheadOfAnyImageIsTheNewObject(Due d) {
        TruePoll x = new TruePoll();
        String made = Polls.imaged(x);
        d.is("back() at once", x.back(), 0);
        d.same("at once", Polls.imaged(x), made);
        x.person(3, 1);
        x.person(4, 2);
        x.hear(0, 1);
        Polls.ruled(x, "says 1;");
        x.day(2);
        x.nudge(1, 1);
        x.party(1, 2);
        x.village(3, 9);
        x.said(1, 1);
        d.is("back()", x.back(), 0);
        d.same("behind all that", Polls.imaged(x), made);
        d.is("undo()", x.undo(), NONE);
        d.is("person(9, 3)", x.person(9, 3), 0);
        d.is("hears nobody", x.of(0, 2), 0);
    }

    // ---- promise 2

    @Sentence(promise = 2, says = "PEOPLE 0 .. 7 (told one by one)")
    static void peopleAreEight(Due d) {
        TruePoll x = new TruePoll();
        for (int p = 0; p <= 7; p++) {
            d.is("about(0)", x.about(0), p);
            d.is("of(" + p + ", 0)", x.of(p, 0), -10);
            d.is("person(" + p + ", 0)", x.person(p, 0), p);
            d.is("of(" + p + ", 0)", x.of(p, 0), p);
        }
        d.is("about(0)", x.about(0), 8);
        d.is("of(8, 0)", x.of(8, 0), -10);
    }

    @Sentence(promise = 2, says = "A PERSON: its number.")
    static void itsNumberIsTheNextOne(Due d) {
        TruePoll x = new TruePoll();
        d.is("person(9, 3)", x.person(9, 3), 0);
        d.is("person(10, 3)", x.person(10, 3), NONE);
        d.is("person(0, 0), behind one that is none", x.person(0, 0), 1);
        x.back();
        d.is("person(0, 0), behind back()", x.person(0, 0), 0);
    }

    @Sentence(promise = 2, says = "LEAN 0 .. 9, SORT (0 steady, 1 with, 2 against, 3 near)")
    static void eachLeanAndSortCanBe(Due d) {
        for (int lean = 0; lean <= 9; lean++) {
            for (int sort = 0; sort <= 3; sort++) {
                TruePoll x = new TruePoll();
                d.is("person(" + lean + ", " + sort + ")", x.person(lean, sort), 0);
                d.is("LEAN", x.of(0, 0), lean);
                d.is("SORT", x.of(0, 1), sort);
            }
        }
    }

    @Sentence(promise = 2, says = "NONE for others (0 .. 9; 0 .. 3)")
    static void othersAreNone(Due d) {
        TruePoll x = Polls.four();
        String ahead = Polls.seen(x);
        Polls.beyond(d, "LEAN", 0, 9, NONE, lean -> x.person(lean, 0));
        Polls.beyond(d, "SORT", 0, 3, NONE, sort -> x.person(0, sort));
        d.is("person(3, 9)", x.person(3, 9), NONE);
        d.is("person(-1, -1)", x.person(-1, -1), NONE);
        d.same("nothing is done", Polls.seen(x), ahead);
        d.is("person(9, 0)", x.person(9, 0), 4);
        d.is("person(0, 3)", x.person(0, 3), 5);
    }

    @Sentence(promise = 2, says = "or if there are 8.")
    static void aNinthIsNone(Due d) {
        TruePoll x = Polls.people(7, 2, 1);
        d.is("the eighth", x.person(7, 3), 7);
        String ahead = Polls.seen(x);
        d.is("a ninth", x.person(0, 0), NONE);
        d.is("a ninth", x.person(9, 3), NONE);
        d.is("a ninth that is none", x.person(10, 4), NONE);
        d.same("nothing is done", Polls.seen(x), ahead);
    }

    // ---- promise 3

    @Sentence(promise = 3, says = "whom each hears (told; at first nobody; not itself)")
    static void atFirstNobodyIsHeard(Due d) {
        TruePoll x = Polls.people(8, 0, 0);
        for (int p = 0; p <= 7; p++) {
            d.is("of(" + p + ", 2)", x.of(p, 2), 0);
            d.no("hear(" + p + ", " + p + ")", x.hear(p, p));
            d.is("of(" + p + ", 2)", x.of(p, 2), 0);
        }
    }

    @Sentence(promise = 3, says = "Whether a PERSON hears another one, is other: true.")
    static void hearingTurnsEachTime(Due d) {
        TruePoll x = Polls.people(8, 0, 0);
        d.yes("hear(0, 7)", x.hear(0, 7));
        d.is("0 hears 7", x.of(0, 2), 128);
        d.is("7 hears nobody", x.of(7, 2), 0);
        d.yes("hear(7, 0)", x.hear(7, 0));
        d.is("7 hears 0", x.of(7, 2), 1);
        d.yes("hear(0, 7) again", x.hear(0, 7));
        d.is("0 hears nobody", x.of(0, 2), 0);
        d.is("7 hears 0 yet", x.of(7, 2), 1);
        d.yes("hear(0, 7) once more", x.hear(0, 7));
        d.is("0 hears 7 anew", x.of(0, 2), 128);
    }

    @Sentence(promise = 3, says = "False for others (unlike ones).")
    static void othersCannotHear(Due d) {
        TruePoll x = Polls.four();
        x.hear(3, 0);
        String ahead = Polls.seen(x);
        Polls.beyond(d, "hear(.., 0)", 0, 3, 0, a -> x.hear(a, 0) ? 1 : 0);
        Polls.beyond(d, "hear(0, ..)", 0, 3, 0, b -> x.hear(0, b) ? 1 : 0);
        Polls.beyond(d, "hear(.., ..)", 0, 3, 0, both -> x.hear(both, both) ? 1 : 0);
        d.no("hear(0, 0)", x.hear(0, 0));
        d.no("hear(3, 3)", x.hear(3, 3));
        d.same("nothing is done", Polls.seen(x), ahead);
        d.no("with nobody", new TruePoll().hear(0, 1));
    }

    // ---- promise 15

    @Sentence(promise = 15, says = "Of a PERSON: 0 LEAN, 1 SORT, 2 whom it hears (bits), 3 its latest ANSWER (1 yes, "
        + "0 no), 4 sways, told yes, 5 told no.")
    static void allOfThemCanBeHeardButItself(Due d) {
        TruePoll x = Polls.people(8, 4, 2);
        for (int p = 1; p <= 7; p++) {
            x.hear(0, p);
            x.hear(7, p - 1);
        }
        d.is("0 hears 1 .. 7", x.of(0, 2), 254);
        d.is("7 hears 0 .. 6", x.of(7, 2), 127);
        d.is("LEAN of 7", x.of(7, 0), 4);
        d.is("SORT of 7", x.of(7, 1), 2);
    }

    @Sentence(promise = 15, says = "3 its latest ANSWER (1 yes, 0 no), 4 sways, told yes, 5 told no.")
    static void answersOfTheFirstAndTheLast(Due d) {
        // from X 449 on of eight only 5 draws 0
        TruePoll x = Polls.ruled(8, "says if who = 0 or who = 7 then 1 else 0 end; sways if yes = 1 then 1 else -1 end;");
        x.tell(0);
        int[] due = {1, 0, 0, 0, 0, 1, 0, 1};
        for (int p = 0; p <= 7; p++) {
            d.is("of(" + p + ", 3)", x.of(p, 3), due[p]);
            d.is("of(" + p + ", 4)", x.of(p, 4), 1);
            d.is("of(" + p + ", 5)", x.of(p, 5), -1);
        }
    }

    @Sentence(promise = 15, says = "ANSWERS: each yes or no (at first no).")
    static void answersAreAtFirstNo(Due d) {
        TruePoll x = Polls.ruled(8, "says 1;");
        for (int p = 0; p <= 7; p++) {
            d.is("of(" + p + ", 3)", x.of(p, 3), 0);
        }
        d.is("is(3)", x.is(3), 0);
        TruePoll y = Polls.ruled(2, "says 1;");
        y.tell(0);
        y.person(9, 0);
        d.is("one told behind a ROUND", y.of(2, 3), 0);
        d.is("the others", y.is(3), 3);
    }

    private static void sways(Due d, String sum, int want) {
        TruePoll x = Polls.ruled(1, "sways " + sum + ";");
        d.is("of(0, 4) by sways " + sum, x.of(0, 4), want);
        d.is("of(0, 5) by sways " + sum, x.of(0, 5), want);
    }

    @Sentence(promise = 15, says = "sways: -2 at least, 2 at most; without: 0; told a figure as the ROUND is.")
    static void swaysTwoAtMost(Due d) {
        sways(d, "-3", -2);
        sways(d, "-2", -2);
        sways(d, "-1", -1);
        sways(d, "0", 0);
        sways(d, "1", 1);
        sways(d, "2", 2);
        sways(d, "3", 2);
        sways(d, "9999 * 9999", 2);
        sways(d, "-9999 * 9999", -2);
    }

    @Sentence(promise = 15, says = "without: 0; told a figure as the ROUND is.")
    static void withoutItSwaysNothing(Due d) {
        TruePoll x = Polls.people(1, 9, 0);
        d.is("without THE TEXT, told yes", x.of(0, 4), 0);
        d.is("without THE TEXT, told no", x.of(0, 5), 0);
        Polls.ruled(x, "says 2;");
        d.is("by a TEXT without sways, told yes", x.of(0, 4), 0);
        d.is("by a TEXT without sways, told no", x.of(0, 5), 0);
        Polls.ruled(x, "sways 1;");
        d.is("by a TEXT with it", x.of(0, 4), 1);
        x.by(NONE);
        d.is("when none rules any more", x.of(0, 4), 0);
    }

    @Sentence(promise = 15, says = "told a figure as the ROUND is.")
    static void swaysIsToldTheFigureOfTheRound(Due d) {
        TruePoll x = Polls.ruled(3, "says 1; sways figure - 2;");
        d.is("told the FIGURE 0", x.of(0, 4), -2);
        x.tell(3);
        d.is("LEAN behind a ROUND told 3", x.of(0, 0), 6);
        d.is("told the FIGURE 3", x.of(0, 5), 1);
        x.tell(0);
        d.is("LEAN behind a ROUND told 0", x.of(0, 0), 4);
        d.is("told the FIGURE 2", x.of(0, 4), 0);
        x.says(0, 8);
        d.is("told the FIGURE 2 yet", x.of(0, 5), 0);
    }

    @Sentence(promise = 15, says = "-10 for others.")
    static void ofOthersIsMinusTen(Due d) {
        TruePoll x = Polls.ruled(Polls.four(), "sways yes * 4 - 2;");
        String ahead = Polls.seen(x);
        for (int what = 0; what <= 5; what++) {
            int asked = what;
            Polls.beyond(d, "of(.., " + what + ")", 0, 3, -10, p -> x.of(p, asked));
        }
        Polls.beyond(d, "of(0, ..)", 0, 5, -10, what -> x.of(0, what));
        Polls.beyond(d, "of(3, ..)", 0, 5, -10, what -> x.of(3, what));
        d.is("of(4, 6)", x.of(4, 6), -10);
        d.same("nothing is done", Polls.seen(x), ahead);
        d.is("of(0, 5) can be -2", x.of(0, 5), -2);
        d.is("with nobody", new TruePoll().of(0, 0), -10);
    }

    // ---- promise 16

    @Sentence(promise = 16, says = "Whether it says yes now, told a figure.")
    static void toldMoreThanThereAreItSaysForAllThat(Due d) {
        TruePoll x = Polls.ruled(1, "says figure - 7;");
        d.no("says(0, 7)", x.says(0, 7));
        d.yes("says(0, 8)", x.says(0, 8));
        d.no("says(0, 0)", x.says(0, 0));
        x.by(NONE);
        d.yes("of LEAN 5", x.says(0, 0));
        x.nudge(0, -1);
        d.no("of LEAN 4, as it is now", x.says(0, 0));
    }

    @Sentence(promise = 16, says = "False for others (0 .. 8).")
    static void othersSayNothing(Due d) {
        TruePoll x = Polls.ruled(4, "says 1;");
        String ahead = Polls.seen(x);
        for (int figure = 0; figure <= 8; figure++) {
            d.yes("says(0, " + figure + ")", x.says(0, figure));
            d.yes("says(3, " + figure + ")", x.says(3, figure));
        }
        Polls.beyond(d, "says(0, ..)", 0, 8, 0, f -> x.says(0, f) ? 1 : 0);
        Polls.beyond(d, "says(3, ..)", 0, 8, 0, f -> x.says(3, f) ? 1 : 0);
        Polls.beyond(d, "says(.., 0)", 0, 3, 0, p -> x.says(p, 0) ? 1 : 0);
        Polls.beyond(d, "says(.., 8)", 0, 3, 0, p -> x.says(p, 8) ? 1 : 0);
        d.same("nothing is done", Polls.seen(x), ahead);
        d.no("with nobody", new TruePoll().says(0, 0));
    }

    /** By which figures (bits, 0 .. 8) one of so many PEOPLE says yes. */
    private static int yesFigures(int people, int lean, int sort) {
        TruePoll x = Polls.people(people, lean, sort);
        int bits = 0;
        for (int f = 0; f <= 8; f++) {
            bits |= x.says(people - 1, f) ? 1 << f : 0;
        }
        return bits;
    }

    @Sentence(promise = 16, says = "says; without: by SORT: 0 LEAN less 4;")
    static void steadyGoesByItsLean(Due d) {
        for (int lean = 0; lean <= 9; lean++) {
            d.is("steady of LEAN " + lean, yesFigures(8, lean, 0), lean <= 4 ? 0 : 511);
        }
    }

    @Sentence(promise = 16, says = "1 1, if twice the figure is as much as how many PEOPLE there are or more, else 0;")
    static void withGoesWithTheHalf(Due d) {
        d.is("of 1", yesFigures(1, 0, 1), 511 - 1);
        d.is("of 2", yesFigures(2, 0, 1), 511 - 1);
        d.is("of 3", yesFigures(3, 9, 1), 511 - 3);
        d.is("of 4", yesFigures(4, 9, 1), 511 - 3);
        d.is("of 7", yesFigures(7, 0, 1), 511 - 15);
        d.is("of 8", yesFigures(8, 0, 1), 511 - 15);
    }

    @Sentence(promise = 16, says = "2 1, if it isn't, else 0;")
    static void againstGoesAgainstIt(Due d) {
        d.is("of 1", yesFigures(1, 0, 2), 1);
        d.is("of 2", yesFigures(2, 0, 2), 1);
        d.is("of 3", yesFigures(3, 9, 2), 3);
        d.is("of 4", yesFigures(4, 9, 2), 3);
        d.is("of 7", yesFigures(7, 0, 2), 15);
        d.is("of 8", yesFigures(8, 0, 2), 15);
    }

    @Sentence(promise = 16, says = "3 1, if the figure and LEAN are 2 apart at most, else 0.")
    static void nearIsTwoApartAtMost(Due d) {
        d.is("LEAN 0", yesFigures(1, 0, 3), 7);
        d.is("LEAN 1", yesFigures(1, 1, 3), 15);
        d.is("LEAN 2", yesFigures(1, 2, 3), 31);
        d.is("LEAN 5", yesFigures(8, 5, 3), 8 + 16 + 32 + 64 + 128);
        d.is("LEAN 8", yesFigures(8, 8, 3), 64 + 128 + 256);
        d.is("LEAN 9", yesFigures(8, 9, 3), 128 + 256);
    }

    // ---- promise 17

    @Sentence(promise = 17, says = "0 ROUND, 1 X, 2 FIGURE, 3 ANSWERS (bits), 4 LEANS of all.")
    static void leansOfAllAreTheirSum(Due d) {
        TruePoll x = new TruePoll();
        d.is("with nobody", x.is(4), 0);
        x.person(0, 0);
        d.is("0", x.is(4), 0);
        for (int p = 1; p <= 7; p++) {
            x.person(9, 0);
        }
        d.is("0 and seven times 9", x.is(4), 63);
        x.nudge(0, 9);
        d.is("eight times 9", x.is(4), 72);
        x.nudge(7, -1);
        d.is("less 1", x.is(4), 71);
    }

    @Sentence(promise = 17, says = "3 ANSWERS (bits)")
    static void answersOfAllAreBits(Due d) {
        TruePoll x = Polls.ruled(8, "says figure;");
        boolean all = false;
        for (int i = 0; i < 40 && !all; i++) {
            int others = Polls.others(x.is(1), 8);
            d.is("tell(8)", x.tell(8), 8 - Integer.bitCount(others));
            d.is("is(3)", x.is(3), 255 ^ others);
            all = others == 0;
        }
        d.yes("all said yes once", all && x.is(3) == 255);
    }

    @Sentence(promise = 17, says = "FIGURE 0 .. 8: how many said yes (at first 0).")
    static void theFigureIsNoneToAll(Due d) {
        TruePoll x = Polls.ruled(8, "says figure;");
        d.is("at first", x.is(2), 0);
        int seen = 0;
        for (int i = 0; i < 40; i++) {
            int figure = x.tell(i % 2 * 8);
            d.is("is(2)", x.is(2), figure);
            d.is("how many said yes", x.is(2), Integer.bitCount(x.is(3)));
            seen |= 1 << figure;
        }
        d.is("0 and 8 were seen", seen & 257, 257);
    }

    @Sentence(promise = 17, says = "ROUND 0 .. 9999 (at first 0).")
    static void theRoundIsAtFirst0(Due d) {
        TruePoll x = new TruePoll();
        d.is("at first", x.is(0), 0);
        x.day(1);
        d.is("behind one", x.is(0), 1);
        d.is("at last", Polls.at(9999, x).is(0), 9999);
    }

    @Sentence(promise = 17, says = "X: at first 449.")
    static void xIsAtFirst449(Due d) {
        TruePoll x = new TruePoll();
        d.is("at first", x.is(1), 449);
        x.person(0, 0);
        x.nudge(0, 1);
        d.is("where nobody drew", x.is(1), 449);
        x.tell(0);
        d.is("where one drew", x.is(1), 8588);
    }

    @Sentence(promise = 17, says = "-2 for others.")
    static void isOfOthersIsMinusTwo(Due d) {
        TruePoll x = Polls.four();
        x.day(2);
        Polls.beyond(d, "is", 0, 4, -2, x::is);
        d.is("is(4) is one of them", x.is(4), 9);
    }
}
