import java.util.ArrayDeque;
import java.util.Deque;

/** Promises 9 to 11, 13, 14, 18 and 19: what is done, taken back, written down and foretold. */
final class BoundsOfRounds {
    private static final int NONE = Polls.NONE;

    private BoundsOfRounds() {
    }

    private static void leans(Due d, TruePoll x, int... due) {
        for (int p = 0; p < due.length; p++) {
            d.is("LEAN of " + p, x.of(p, 0), due[p]);
        }
    }

    // ---- promise 9

    @Sentence(promise = 9, says = "A ROUND, told a figure: PEOPLE by number say yes, if says (as all is ahead of the "
        + "ROUND) is above 0, else no")
    static void yesIsAboveNought(Due d) {
        // from X 449 on of eight only 5 draws 0
        TruePoll x = Polls.ruled(8, "says who - 3;");
        d.is("tell(0)", x.tell(0), 3);
        d.is("4, 6 and 7", x.is(3), 16 + 64 + 128);
        TruePoll y = Polls.ruled(8, "says 3 - who;");
        d.is("tell(8)", y.tell(8), 4);
        d.is("0, 1, 2 and 5", y.is(3), 1 + 2 + 4 + 32);
    }

    @Sentence(promise = 9, says = "says (as all is ahead of the ROUND)")
    static void answersOfTheRoundAreNotHeardInIt(Due d) {
        // of four nobody draws 0 in the first ROUND, 1 in the second one, nobody in the third one
        TruePoll x = Polls.ruled(4, "says if who = 0 then 1 else said (who - 1) end;");
        d.is("tell(0)", x.tell(0), 1);
        d.is("0 alone", x.is(3), 1);
        d.is("tell(0)", x.tell(0), 1);
        d.is("0, as 1 drew 0", x.is(3), 1);
        d.is("tell(0)", x.tell(0), 2);
        d.is("0 and 1", x.is(3), 3);
        TruePoll y = Polls.people(4, 0, 0);
        y.hear(3, 0);
        y.hear(0, 3);
        Polls.ruled(y, "says if who = 0 or heard = 1 and round = 1 then 1 else 0 end;");
        d.is("heard in ROUND 0", y.tell(0), 1);
        d.is("heard in ROUND 1: 0 and 3, and 1, who drew 0", y.tell(0), 3);
        d.is("who", y.is(3), 1 + 2 + 8);
    }

    private static int toldFrom(int seed, String law) {
        TruePoll x = new TruePoll();
        x.years(seed, 1);
        x.person(0, 0);
        Polls.ruled(x, law);
        return x.tell(0);
    }

    @Sentence(promise = 9, says = "a draw by 20 each (X mod 20, X becoming (X * 709 + 577) mod 31033 behind it): 0: "
        + "the other one.")
    static void zeroOfTwentySaysTheOther(Due d) {
        // one year of nobody sets X: by SEED 2839 to 0, 9886 to 20, 4743 to 1, 7982 to 19, 935 to 31032
        d.is("X 0, no", toldFrom(2839, "says 0;"), 1);
        d.is("X 0, yes", toldFrom(2839, "says 1;"), 0);
        d.is("X 20, no", toldFrom(9886, "says 0;"), 1);
        d.is("X 20, yes", toldFrom(9886, "says 1;"), 0);
        d.is("X 1, no", toldFrom(4743, "says 0;"), 0);
        d.is("X 1, yes", toldFrom(4743, "says 1;"), 1);
        d.is("X 19, no", toldFrom(7982, "says 0;"), 0);
        d.is("X 19, yes", toldFrom(7982, "says 1;"), 1);
        d.is("X 31032, no", toldFrom(935, "says 0;"), 0);
    }

    @Sentence(promise = 9, says = "X becoming (X * 709 + 577) mod 31033 behind it)")
    static void xComesAround(Due d) {
        int[] seeds = {2839, 935, 4743};
        int[] at = {0, 31032, 1};
        int[] behind = {577, 30901, 1286};
        for (int i = 0; i < seeds.length; i++) {
            TruePoll x = new TruePoll();
            x.years(seeds[i], 1);
            d.is("X by SEED " + seeds[i], x.is(1), at[i]);
            x.person(0, 0);
            x.tell(0);
            d.is("X behind " + at[i], x.is(1), behind[i]);
        }
    }

    @Sentence(promise = 9, says = "a draw by 20 each")
    static void eachDrawsOnceARound(Due d) {
        for (int people = 0; people <= 8; people++) {
            TruePoll x = Polls.people(people, 0, 0);
            d.is("tell(0)", x.tell(0), Integer.bitCount(Polls.others(449, people)));
            d.is("X behind " + people, x.is(1), Polls.drawn(449, people));
            d.is("who drew 0", x.is(3), Polls.others(449, people));
        }
    }

    @Sentence(promise = 9, says = "Then LEAN of each is more by sways (yes being its ANSWER of this ROUND, all else "
        + "as ahead of the ROUND; held 0 .. 9).")
    static void leansAreHeld(Due d) {
        TruePoll x = Polls.leaning(0, 7, 8, 9, 0, 5, 1, 6, 3);
        Polls.ruled(x, "says 1; sways if yes = 1 then 2 else -2 end;");
        x.tell(0);
        // 5 drew 0
        leans(d, x, 9, 9, 9, 2, 7, 0, 8, 5);
        TruePoll y = Polls.leaning(0, 0, 1, 2, 3, 9, 8, 7);
        Polls.ruled(y, "says 0; sways if yes = 1 then 2 else -2 end;");
        y.tell(0);
        leans(d, y, 0, 0, 0, 1, 7, 9, 5);
    }

    @Sentence(promise = 9, says = "yes being its ANSWER of this ROUND, all else as ahead of the ROUND")
    static void swaysGoByWhatWasAhead(Due d) {
        TruePoll x = Polls.leaning(0, 4, 5, 5);
        Polls.ruled(x, "sways lean (who - 1) - own;");
        x.tell(0);
        leans(d, x, 2, 4, 5);
        TruePoll y = Polls.people(3, 5, 0);
        y.hear(1, 0);
        Polls.ruled(y, "says 1; sways said who + heard;");
        y.tell(0);
        leans(d, y, 5, 5, 5);
        y.tell(0);
        leans(d, y, 6, 7, 6);
        TruePoll z = Polls.ruled(1, "sways round;");
        z.tell(0);
        leans(d, z, 5);
        z.tell(0);
        leans(d, z, 6);
        z.tell(0);
        leans(d, z, 8);
    }

    @Sentence(promise = 9, says = "FIGURE is how many said yes; written down.")
    static void eachRoundIsWrittenDown(Due d) {
        TruePoll x = Polls.ruled(8, "says figure;");
        d.is("none yet", x.book(NONE, 0), 0);
        for (int i = 0; i < 4; i++) {
            int told = i % 2 * 8;
            int figure = x.tell(told);
            d.is("how many lines", x.book(NONE, 0), i + 1);
            d.is("its ROUND", x.book(i, 0), i);
            d.is("what was told", x.book(i, 1), told);
            d.is("the FIGURE", x.book(i, 2), figure);
            d.is("is(2)", x.is(2), figure);
            d.is("ANSWERS", Integer.bitCount(x.is(3)), figure);
        }
        x.nudge(0, 1);
        d.is("a nudge is not", x.book(NONE, 0), 4);
    }

    @Sentence(promise = 9, says = "ROUND is one more (at 9999 none can pass).")
    static void theLastTellIsInRound9998(Due d) {
        TruePoll x = Polls.at(9998, Polls.people(3, 9, 0));
        x.tell(3);
        d.is("is(0)", x.is(0), 9999);
        String ahead = Polls.seen(x);
        for (int figure = 0; figure <= 3; figure++) {
            d.is("tell(" + figure + ") in 9999", x.tell(figure), NONE);
        }
        d.same("nothing is done", Polls.seen(x), ahead);
    }

    @Sentence(promise = 9, says = "TOLD: a ROUND by a told figure.")
    static void itIsToldThatFigureAndNotTheLatest(Due d) {
        TruePoll x = Polls.ruled(4, "says figure - 3;");
        d.is("tell(3)", x.tell(3), 0);
        TruePoll y = Polls.ruled(4, "says figure - 3;");
        d.is("tell(4)", y.tell(4), 4);
        d.is("the FIGURE is 4", y.is(2), 4);
        d.is("tell(0)", y.tell(0), Integer.bitCount(Polls.others(Polls.drawn(449, 4), 4)));
    }

    @Sentence(promise = 9, says = "TOLD: the FIGURE then.")
    static void theAnswerIsWhatCame(Due d) {
        TruePoll x = Polls.ruled(8, "says 4 - who;");
        // 5 draws 0
        d.is("tell(8)", x.tell(8), 5);
        d.is("FIGURE", x.is(2), 5);
        TruePoll y = new TruePoll();
        d.is("tell(0) of nobody", y.tell(0), 0);
        d.is("a ROUND", y.is(0), 1);
        d.is("a STEP", y.about(3), 1);
    }

    @Sentence(promise = 9, says = "NONE for others (0 to how many PEOPLE there are), or if no ROUND can pass.")
    static void figuresBeyondThePeopleAreNone(Due d) {
        for (int people : new int[] {0, 1, 4, 8}) {
            TruePoll x = Polls.people(people, 9, 0);
            x.nudge(0, -1);
            String ahead = Polls.seen(x);
            Polls.beyond(d, "tell by " + people, 0, people, NONE, x::tell);
            d.same("nothing is done", Polls.seen(x), ahead);
            int others = Integer.bitCount(Polls.others(449, people));
            d.is("tell(" + people + ")", x.tell(people), people - others);
            d.is("tell(0)", x.tell(0), people - Integer.bitCount(Polls.others(Polls.drawn(449, people), people)));
        }
    }

    // ---- promise 10

    @Sentence(promise = 10, says = "NUDGED: LEAN is more by so much.")
    static void aNudgeIsByThatMuch(Due d) {
        TruePoll x = Polls.leaning(0, 4, 4);
        for (int by : new int[] {5, -9, 9, -8, 1, 2, -4}) {
            int lean = x.of(0, 0);
            d.yes("nudge(0, " + by + ")", x.nudge(0, by));
            d.is("LEAN", x.of(0, 0), lean + by);
            d.is("LEAN of the other one", x.of(1, 0), 4);
        }
        d.is("X", x.is(1), 449);
        d.is("ROUND", x.is(0), 0);
    }

    @Sentence(promise = 10, says = "NUDGED: true.")
    static void theFirstAndTheLastCanBeNudged(Due d) {
        TruePoll x = Polls.people(8, 0, 0);
        d.yes("nudge(0, 1)", x.nudge(0, 1));
        d.yes("nudge(7, 9)", x.nudge(7, 9));
        leans(d, x, 1, 0, 0, 0, 0, 0, 0, 9);
        d.is("STEPS", x.about(3), 2);
    }

    @Sentence(promise = 10, says = "False for others (-9 .. 9)")
    static void othersAreNotNudged(Due d) {
        TruePoll x = Polls.leaning(0, 0, 9, 5);
        String ahead = Polls.seen(x);
        for (int p = 0; p <= 2; p++) {
            int person = p;
            Polls.beyond(d, "nudge(" + p + ", ..)", -9, 9, 0, by -> x.nudge(person, by) ? 1 : 0);
        }
        Polls.beyond(d, "nudge(.., 1)", 0, 2, 0, p -> x.nudge(p, 1) ? 1 : 0);
        Polls.beyond(d, "nudge(.., -1)", 0, 2, 0, p -> x.nudge(p, -1) ? 1 : 0);
        d.same("nothing is done", Polls.seen(x), ahead);
        d.yes("nudge(0, 9)", x.nudge(0, 9));
        d.yes("nudge(1, -9)", x.nudge(1, -9));
        leans(d, x, 9, 0, 5);
        d.no("with nobody", new TruePoll().nudge(0, 1));
    }

    @Sentence(promise = 10, says = "and if it would be below 0, above 9, or as it is.")
    static void leansStayInTheirRange(Due d) {
        for (int lean = 0; lean <= 9; lean++) {
            for (int by = -9; by <= 9; by++) {
                TruePoll x = Polls.leaning(0, lean);
                boolean can = by != 0 && lean + by >= 0 && lean + by <= 9;
                d.is("nudge(0, " + by + ") of LEAN " + lean, x.nudge(0, by) ? 1 : 0, can ? 1 : 0);
                d.is("LEAN", x.of(0, 0), can ? lean + by : lean);
                d.is("STEPS", x.about(3), can ? 1 : 0);
            }
        }
    }

    // ---- promise 11

    @Sentence(promise = 11, says = "ROUNDS pass (1 .. 60), each told the FIGURE as it is: the FIGURE.")
    static void oneToSixtyRoundsPass(Due d) {
        TruePoll x = Polls.ruled(8, "says 1;");
        d.is("day(1)", x.day(1), 7);
        d.is("told the FIGURE 0", x.book(0, 1), 0);
        d.is("day(60)", x.day(60), x.is(2));
        d.is("ROUND", x.is(0), 61);
        for (int i = 1; i < 30; i++) {
            d.is("told what was the FIGURE then", x.book(i, 1), x.book(i - 1, 2));
        }
        d.is("the latest", x.book(29, 2), x.is(2));
        d.is("X", x.is(1), Polls.drawn(449, 61 * 8));
    }

    @Sentence(promise = 11, says = "NONE for others")
    static void otherDaysAreNone(Due d) {
        TruePoll x = Polls.four();
        x.day(1);
        String ahead = Polls.seen(x);
        Polls.beyond(d, "day", 1, 60, NONE, x::day);
        d.is("day(-60)", x.day(-60), NONE);
        d.same("nothing is done", Polls.seen(x), ahead);
    }

    @Sentence(promise = 11, says = "or beyond 9999 (nothing is done then).")
    static void notOneOfTooManyRoundsPasses(Due d) {
        TruePoll x = Polls.at(9940, Polls.people(2, 9, 0));
        String ahead = Polls.seen(x);
        d.is("day(60) in 9940", x.day(60), NONE);
        d.same("nothing is done", Polls.seen(x), ahead);
        d.is("day(59) in 9940", x.day(59), x.is(2));
        d.is("ROUND", x.is(0), 9999);
        ahead = Polls.seen(x);
        d.is("day(1) in 9999", x.day(1), NONE);
        d.is("day(60) in 9999", x.day(60), NONE);
        d.same("nothing is done", Polls.seen(x), ahead);
        x.undo();
        d.is("day(2) in 9998", x.day(2), NONE);
        d.is("ROUND", x.is(0), 9998);
        x.day(1);
        d.is("day(1) in 9998", x.is(0), 9999);
    }

    // ---- promise 13

    @Sentence(promise = 13, says = "YEARS: ROUND. NONE for others.")
    static void otherYearsAreNone(Due d) {
        TruePoll x = Polls.four();
        x.day(2);
        String ahead = Polls.seen(x);
        Polls.beyond(d, "years(.., 1)", 0, 9999, NONE, seed -> x.years(seed, 1));
        Polls.beyond(d, "years(0, ..)", 1, 40, NONE, n -> x.years(0, n));
        Polls.beyond(d, "years(9999, ..)", 1, 40, NONE, n -> x.years(9999, n));
        d.is("years(10000, 41)", x.years(10000, 41), NONE);
        d.same("nothing is done", Polls.seen(x), ahead);
        d.is("SEED 0: a ROUND", x.years(0, 1), 3);
        d.is("SEED 9999: a ROUND", x.years(9999, 1), 4);
    }

    @Sentence(promise = 13, says = "X is SEED (0 .. 9999) * 2 + 449; n times (1 .. 40): x is X, then X is anew (as in "
        + "a draw)")
    static void theSeedSetsX(Due d) {
        int[][] due = {{0, 1, 8588}, {9999, 1, 5089}, {0, 40, 30628}, {9999, 40, 16057}, {2839, 1, 0}, {935, 1, 31032}};
        for (int[] one : due) {
            TruePoll x = new TruePoll();
            x.tell(0);
            x.years(one[0], one[1]);
            d.is("X behind years(" + one[0] + ", " + one[1] + ")", x.is(1), one[2]);
            // without PEOPLE nobody draws, so YEARS alone move X
            x.years(one[0], one[1]);
            d.is("X is set anew each time", x.is(1), one[2]);
        }
    }

    /** Seven PEOPLE of LEAN 5, behind two years the first of which is about PERSON 7: nobody. */
    private static TruePoll secondYear(int seed) {
        TruePoll x = Polls.ruled(7, "says 0;");
        x.years(seed, 2);
        return x;
    }

    @Sentence(promise = 13, says = "x mod 6: 0 PERSON x / 6 mod 8 is NUDGED by 1; 1 by -1;")
    static void someYearsNudge(Due d) {
        leans(d, secondYear(1021), 6, 5, 5, 5, 5, 5, 5);
        leans(d, secondYear(229), 5, 5, 5, 5, 5, 5, 6);
        leans(d, secondYear(469), 4, 5, 5, 5, 5, 5, 5);
        leans(d, secondYear(61), 5, 5, 5, 4, 5, 5, 5);
        leans(d, secondYear(733), 5, 5, 5, 5, 5, 5, 4);
        for (int seed : new int[] {1021, 229, 469, 61, 733}) {
            d.is("ROUND by SEED " + seed, secondYear(seed).is(0), 0);
        }
        TruePoll x = Polls.people(8, 5, 0);
        x.years(589, 2);
        leans(d, x, 5, 5, 5, 5, 5, 5, 5, 3);
    }

    private static void toldInYears(Due d, int people, int seed, int due) {
        TruePoll x = Polls.ruled(people, "says 1;");
        x.tell(people);
        x.years(seed, 2);
        d.is("lines by SEED " + seed + " of " + people, x.book(NONE, 0), due == NONE ? 1 : 2);
        d.is("what was told by SEED " + seed + " of " + people, x.book(1, 1), due == NONE ? -2 : due);
    }

    @Sentence(promise = 13, says = "2 figure x / 6 mod 9 is TOLD, if x mod 4 is 2")
    static void someYearsTell(Due d) {
        toldInYears(d, 7, 181, 4);
        toldInYears(d, 7, 2029, 0);
        toldInYears(d, 7, 973, 1);
        toldInYears(d, 7, 1765, 7);
        toldInYears(d, 7, 301, NONE);
    }

    @Sentence(promise = 13, says = "3, 4, 5 a ROUND, told the FIGURE as it is (if it can pass).")
    static void someYearsAreRounds(Due d) {
        // X 449, nobody of seven draws 0 but 5: the FIGURE is 6
        toldInYears(d, 7, 37, 6);
        toldInYears(d, 7, 13, 6);
        toldInYears(d, 7, 109, 6);
        toldInYears(d, 0, 37, 0);
    }

    @Sentence(promise = 13, says = "(each if it can be; else nothing)")
    static void whatCannotBeInAYearIsNothing(Due d) {
        // by SEED 1021 PERSON 0 by 1, by 469 PERSON 0 by -1, by 85 PERSON 7 by 1, by 709 figure 8, by 1765 figure 7
        TruePoll x = Polls.people(7, 9, 0);
        x.years(1021, 2);
        leans(d, x, 9, 9, 9, 9, 9, 9, 9);
        x.years(469, 2);
        leans(d, x, 8, 9, 9, 9, 9, 9, 9);
        TruePoll y = Polls.people(7, 0, 0);
        y.years(469, 2);
        leans(d, y, 0, 0, 0, 0, 0, 0, 0);
        y.years(85, 2);
        d.is("LEANS", y.is(4), 0);
        toldInYears(d, 7, 709, NONE);
        toldInYears(d, 6, 1765, NONE);
        toldInYears(d, 7, 1765, 7);
        toldInYears(d, 0, 181, NONE);
        toldInYears(d, 0, 2029, 0);
    }

    @Sentence(promise = 13, says = "a ROUND, told the FIGURE as it is (if it can pass)")
    static void noRoundPassesInTheYearsOf9999(Due d) {
        TruePoll x = Polls.at(9998, Polls.ruled(7, "says 0;"));
        d.is("SEED 37: a ROUND", x.years(37, 2), 9999);
        int last = x.book(29, 0);
        for (int seed : new int[] {37, 13, 109, 181, 2029}) {
            d.is("years(" + seed + ", 2) in 9999", x.years(seed, 2), 9999);
            d.is("the latest line", x.book(29, 0), last);
        }
        d.is("X behind SEED 37 without a draw", x.years(37, 2) - 9999 + x.is(1), 27861);
        x.years(1021, 2);
        leans(d, x, 6, 5, 5, 5, 5, 5, 5);
    }

    @Sentence(promise = 13, says = "It is one STEP: ROUND.")
    static void yearsAreOneStep(Due d) {
        TruePoll x = Polls.four();
        x.day(3);
        String ahead = Polls.imaged(x);
        d.is("years(7, 40)", x.years(7, 40), x.is(0));
        d.yes("some ROUNDS passed", x.is(0) > 4);
        d.is("STEPS", x.about(3), 4);
        d.is("undo()", x.undo(), 3);
        d.same("all is as ahead of it", Polls.imaged(x), ahead);
        TruePoll y = new TruePoll();
        // SEED 1: X 451, PERSON 3 by -1: nobody
        d.is("years(1, 1)", y.years(1, 1), 0);
        d.is("a STEP, though nothing could be", y.about(3), 1);
        d.is("undo()", y.undo(), 0);
        d.is("X", y.is(1), 449);
    }

    // ---- promise 14

    @Sentence(promise = 14, says = "STEPS: TOLD, NUDGED, a ROUND (each), YEARS (see V): the latest 30 can be taken "
        + "back, the latest first")
    static void thirtyStepsCanBeTakenBack(Due d) {
        TruePoll x = Polls.people(1, 4, 0);
        for (int i = 1; i <= 29; i++) {
            x.nudge(0, i % 2 == 1 ? 1 : -1);
            d.is("STEPS behind " + i, x.about(3), i);
        }
        x.tell(0);
        d.is("STEPS behind 30", x.about(3), 30);
        x.nudge(0, 2);
        d.is("STEPS behind 31", x.about(3), 30);
        d.is("LEAN", x.of(0, 0), 7);
        d.is("undo()", x.undo(), 29);
        d.is("LEAN", x.of(0, 0), 5);
        d.is("ROUND", x.is(0), 1);
        d.is("undo()", x.undo(), 28);
        d.is("ROUND", x.is(0), 0);
        for (int i = 27; i >= 0; i--) {
            d.is("undo()", x.undo(), i);
        }
        d.is("the first of 31 stays", x.of(0, 0), 5);
        d.is("undo()", x.undo(), NONE);
        d.is("LEAN", x.of(0, 0), 5);
    }

    @Sentence(promise = 14, says = "NONE: there is none.")
    static void behindThirtyThereIsNone(Due d) {
        for (int steps = 30; steps <= 33; steps++) {
            TruePoll x = new TruePoll();
            x.day(steps);
            for (int i = 29; i >= 0; i--) {
                d.is("undo()", x.undo(), i);
            }
            String ahead = Polls.seen(x);
            d.is("ROUND", x.is(0), steps - 30);
            d.is("undo()", x.undo(), NONE);
            d.is("undo()", x.undo(), NONE);
            d.same("nothing is done", Polls.seen(x), ahead);
            x.day(2);
            d.is("STEPS", x.about(3), 2);
            d.is("undo()", x.undo(), 1);
        }
    }

    @Sentence(promise = 14, says = "TOLD, NUDGED, a ROUND (each), YEARS (see V)")
    static void whatIsAStepAndWhatIsNot(Due d) {
        TruePoll x = Polls.people(3, 5, 0);
        x.hear(0, 1);
        Polls.ruled(x, "says 1; up 0; day 2; tell 1;");
        x.party(1, 2);
        x.said(1, 2);
        x.village(1, 2);
        x.image();
        x.back();
        x.foretold(60, 0);
        d.is("none of these", x.about(3), 0);
        x.tell(1);
        d.is("TOLD", x.about(3), 1);
        x.nudge(0, -2);
        d.is("NUDGED", x.about(3), 2);
        x.day(5);
        d.is("a ROUND (each)", x.about(3), 7);
        x.years(5, 40);
        d.is("YEARS", x.about(3), 8);
        x.played(0);
        d.is("by a TEXT as by hand", x.about(3), 12);
        x.undo();
        d.is("undo() takes one back", x.about(3), 11);
        x.day(60);
        d.is("30 at most", x.about(3), 30);
    }

    @Sentence(promise = 14, says = "the latest 30 can be taken back, the latest first (LEANS, ANSWERS, FIGURE, ROUND, "
        + "X, BOOK are as ahead of it;")
    static void stepsComeAroundAndBack(Due d) {
        TruePoll x = Polls.ruled(8, "says own - figure; sways if yes = 1 then -1 else 1 end;");
        Deque<String> ahead = new ArrayDeque<>();
        stepsOn(d, x, ahead, 0, 34);
        stepsBack(d, x, ahead, 30, 18);
        stepsOn(d, x, ahead, 18, 25);
        stepsBack(d, x, ahead, 30, 0);
        d.is("undo()", x.undo(), NONE);
    }

    private static void stepsOn(Due d, TruePoll x, Deque<String> ahead, int from, int many) {
        for (int i = 1; i <= many; i++) {
            ahead.push(state(x));
            step(x, i);
            d.is("STEPS", x.about(3), Math.min(30, from + i));
        }
    }

    private static void stepsBack(Due d, TruePoll x, Deque<String> ahead, int from, int to) {
        for (int left = from - 1; left >= to; left--) {
            d.is("undo()", x.undo(), left);
            d.same("as ahead of it", state(x), ahead.pop());
        }
    }

    private static void step(TruePoll x, int i) {
        if (i % 3 == 0) {
            x.tell(i % 9);
        } else if (i % 3 == 1) {
            x.years(i * 7, i % 40 + 1);
        } else if (!x.nudge(i % 8, 1)) {
            x.nudge(i % 8, -1);
        }
    }

    /** What a STEP takes back, in two calls: the LEANS and the BOOK are asked elsewhere. */
    private static String state(TruePoll x) {
        return x.is(1) + " " + x.is(4);
    }

    @Sentence(promise = 14, says = "(LEANS, ANSWERS, FIGURE, ROUND, X, BOOK are as ahead of it;")
    static void eachKindOfStepIsTakenBackWhole(Due d) {
        TruePoll x = Polls.ruled(8, "says own - figure; sways if yes = 1 then -1 else 1 end;");
        x.day(35);
        String ahead = Polls.imaged(x).replace("about 8 1 0 30", "about 8 1 0 29");
        String eldest = x.book(0, 0) + " " + x.book(0, 1) + " " + x.book(0, 2) + " " + x.book(1, 2);
        x.tell(8);
        x.undo();
        d.same("as ahead of TOLD", Polls.imaged(x), ahead);
        x.years(77, 40);
        x.undo();
        d.same("as ahead of YEARS", Polls.imaged(x), ahead);
        d.same("the eldest line is there again", x.book(0, 0) + " " + x.book(0, 1) + " " + x.book(0, 2) + " " + x.book(1, 2),
            eldest);
        d.is("lines", x.book(NONE, 0), 30);
        d.yes("a nudge", x.nudge(3, 1) || x.nudge(3, -1));
        x.undo();
        d.same("as ahead of NUDGED", Polls.imaged(x), ahead);
    }

    @Sentence(promise = 14, says = "PEOPLE told since have LEAN as told, ANSWER no).")
    static void whoCameSinceIsAsTold(Due d) {
        TruePoll x = Polls.ruled(1, "says 1; sways 2;");
        x.tell(1);
        x.tell(1);
        x.person(3, 2);
        x.hear(1, 0);
        x.nudge(1, 5);
        x.tell(2);
        d.is("ANSWERS", x.is(3), 3);
        leans(d, x, 9, 9);
        d.is("undo() of a ROUND", x.undo(), 3);
        leans(d, x, 9, 8);
        d.is("who was there ahead of it, has its ANSWER", x.is(3), 1);
        d.is("undo() of its nudge", x.undo(), 2);
        leans(d, x, 9, 3);
        x.tell(2);
        d.is("ANSWERS", x.is(3), 3);
        x.nudge(1, -4);
        x.undo();
        x.undo();
        d.is("undo() of what was ahead of its coming", x.undo(), 1);
        leans(d, x, 7, 3);
        d.is("ANSWERS", x.is(3), 1);
        d.is("undo()", x.undo(), 0);
        leans(d, x, 5, 3);
        d.is("ANSWERS", x.is(3), 0);
        d.is("there are two yet", x.about(0), 2);
        d.is("1 hears 0 yet", x.of(1, 2), 1);
        d.is("SORT", x.of(1, 1), 2);
    }

    @Sentence(promise = 14, says = "ANSWER no).")
    static void whoCameSinceHasNoAnswerWhateverItWas(Due d) {
        TruePoll x = Polls.ruled(0, "says 1;");
        x.tell(0);
        for (int p = 0; p < 8; p++) {
            x.person(p, 0);
            x.nudge(p, 1);
        }
        x.tell(8);
        d.yes("most said yes", x.is(2) > 4);
        // the eight nudges, the ROUND of eight and the one of nobody
        for (int i = 9; i >= 0; i--) {
            d.is("undo()", x.undo(), i);
        }
        d.is("ANSWERS", x.is(3), 0);
        d.is("FIGURE", x.is(2), 0);
        leans(d, x, 0, 1, 2, 3, 4, 5, 6, 7);
    }

    @Sentence(promise = 14, says = "The latest STEP is taken back: how many can be yet.")
    static void howManyCanBeYet(Due d) {
        TruePoll x = Polls.people(1, 0, 0);
        x.day(2);
        d.is("undo()", x.undo(), 1);
        d.is("about(3)", x.about(3), 1);
        d.is("undo()", x.undo(), 0);
        x.day(1);
        d.is("about(3)", x.about(3), 1);
        d.is("undo()", x.undo(), 0);
    }

    @Sentence(promise = 14, says = "NONE: there is none.")
    static void nothingCanBeTakenBack(Due d) {
        TruePoll x = new TruePoll();
        d.is("undo() of a new object", x.undo(), NONE);
        x.person(5, 0);
        x.hear(0, 0);
        d.is("undo() of a PERSON", x.undo(), NONE);
        d.is("it is there yet", x.about(0), 1);
        x.nudge(0, 1);
        d.is("undo()", x.undo(), 0);
        String ahead = Polls.seen(x);
        d.is("undo()", x.undo(), NONE);
        d.is("undo()", x.undo(), NONE);
        d.same("nothing is done", Polls.seen(x), ahead);
    }

    // ---- promise 18

    @Sentence(promise = 18, says = "BOOK (the latest 30).")
    static void thirtyAreKept(Due d) {
        TruePoll x = Polls.ruled(8, "says figure;");
        for (int i = 1; i <= 34; i++) {
            x.tell(i % 9);
            d.is("lines behind " + i, x.book(NONE, 0), Math.min(i, 30));
            d.is("the eldest is told " + Math.max(1, i - 29) % 9, x.book(0, 1), Math.max(1, i - 29) % 9);
            d.is("the eldest ROUND", x.book(0, 0), Math.max(0, i - 30));
            d.is("the latest ROUND", x.book(Math.min(i, 30) - 1, 0), i - 1);
            d.is("the latest FIGURE", x.book(Math.min(i, 30) - 1, 2), x.is(2));
        }
    }

    @Sentence(promise = 18, says = "BOOK: how many (i NONE)")
    static void theBookIsEmptyAtFirst(Due d) {
        TruePoll x = new TruePoll();
        for (int what = 0; what <= 2; what++) {
            d.is("book(NONE, " + what + ")", x.book(NONE, what), 0);
            d.is("book(0, " + what + ")", x.book(0, what), -2);
        }
        x.day(60);
        for (int what = 0; what <= 2; what++) {
            d.is("book(NONE, " + what + ")", x.book(NONE, what), 30);
        }
    }

    @Sentence(promise = 18, says = "the i-th, from the eldest on: 0 ROUND, 1 the figure that was told, 2 the FIGURE "
        + "then.")
    static void theRoundIsTheOneThatPassed(Due d) {
        TruePoll x = Polls.at(9998, Polls.ruled(2, "says 1;"));
        x.tell(2);
        d.is("the latest", x.book(29, 0), 9998);
        d.is("the eldest", x.book(0, 0), 9969);
        d.is("told", x.book(29, 1), 2);
        d.is("FIGURE", x.book(29, 2), x.is(2));
    }

    @Sentence(promise = 18, says = "-2 if there is none such, and for others.")
    static void otherLinesAreMinusTwo(Due d) {
        TruePoll x = Polls.four();
        d.is("book(0, 0) of none", x.book(0, 0), -2);
        x.day(29);
        d.is("book(29, 0) of 29", x.book(29, 0), -2);
        d.is("book(28, 0) of 29", x.book(28, 0), 28);
        x.day(1);
        d.is("book(29, 0) of 30", x.book(29, 0), 29);
        x.day(1);
        String ahead = Polls.seen(x);
        d.is("book(30, 0)", x.book(30, 0), -2);
        d.is("book(31, 2)", x.book(31, 2), -2);
        d.is("book(-2, 0)", x.book(-2, 0), -2);
        d.is("book(LOW, 0)", x.book(Polls.LOW, 0), -2);
        d.is("book(HIGH, 0)", x.book(Polls.HIGH, 0), -2);
        // three times as much would come around to a line
        d.is("book(1431655766, 0)", x.book(1431655766, 0), -2);
        Polls.beyond(d, "book(0, ..)", 0, 2, -2, what -> x.book(0, what));
        Polls.beyond(d, "book(29, ..)", 0, 2, -2, what -> x.book(29, what));
        d.same("nothing is done", Polls.seen(x), ahead);
    }

    // ---- promise 19

    @Sentence(promise = 19, says = "FORETOLD behind n ROUNDS (1 .. 60; those that can pass), each told the FIGURE as "
        + "it is then.")
    static void whatIsForetoldComes(Due d) {
        for (int n : new int[] {1, 2, 30, 31, 59, 60}) {
            TruePoll x = Polls.ruled(8, "says own - figure; sways if yes = 1 then heard - 2 else 1 end;");
            x.hear(0, 7);
            x.hear(5, 4);
            String ahead = Polls.seen(x);
            int figure = x.foretold(n, 0);
            int answers = x.foretold(n, 1);
            d.same("nothing is done", Polls.seen(x), ahead);
            d.is("day(" + n + ")", x.day(n), figure);
            d.is("ANSWERS", x.is(3), answers);
        }
    }

    @Sentence(promise = 19, says = "FORETOLD behind n ROUNDS")
    static void itIsForetoldFromXAsItIs(Due d) {
        for (int seed = 0; seed <= 9999; seed += 101) {
            TruePoll x = Polls.ruled(8, "says own - figure; sways if yes = 1 then 0 - 1 else 1 end;");
            x.years(seed, 1 + seed % 40);
            int first = x.foretold(1, 1);
            int answers = x.foretold(9, 1);
            d.is("day(1) behind years(" + seed + ", ..)", x.day(1), Integer.bitCount(first));
            d.is("ANSWERS", x.is(3), first);
            d.is("day(8)", x.day(8), Integer.bitCount(answers));
            d.is("ANSWERS", x.is(3), answers);
        }
    }

    @Sentence(promise = 19, says = "(1 .. 60; those that can pass)")
    static void roundsThatCannotPassAreNotForetold(Due d) {
        TruePoll x = Polls.at(9940, Polls.ruled(8, "says figure - 4;"));
        int last = x.foretold(59, 1);
        d.is("foretold(60, 1) in 9940", x.foretold(60, 1), last);
        d.is("foretold(60, 0) in 9940", x.foretold(60, 0), Integer.bitCount(last));
        x.day(59);
        d.is("they came", x.is(3), last);
        d.is("ROUND", x.is(0), 9999);
        d.is("foretold(1, 1) in 9999", x.foretold(1, 1), last);
        d.is("foretold(60, 0) in 9999", x.foretold(60, 0), x.is(2));
    }

    @Sentence(promise = 19, says = "FORETOLD: 0 FIGURE, 1 ANSWERS (bits).")
    static void figureAndAnswersAreForetold(Due d) {
        TruePoll x = Polls.ruled(8, "says 1;");
        // 5 draws 0
        d.is("foretold(1, 0)", x.foretold(1, 0), 7);
        d.is("foretold(1, 1)", x.foretold(1, 1), 255 - 32);
        TruePoll nobody = new TruePoll();
        d.is("foretold(60, 0) of nobody", nobody.foretold(60, 0), 0);
        d.is("foretold(60, 1) of nobody", nobody.foretold(60, 1), 0);
    }

    @Sentence(promise = 19, says = "NONE for others.")
    static void otherTimesAreNotForetold(Due d) {
        TruePoll x = Polls.ruled(8, "says 1;");
        String ahead = Polls.seen(x);
        Polls.beyond(d, "foretold(.., 0)", 1, 60, NONE, n -> x.foretold(n, 0));
        Polls.beyond(d, "foretold(.., 1)", 1, 60, NONE, n -> x.foretold(n, 1));
        Polls.beyond(d, "foretold(1, ..)", 0, 1, NONE, what -> x.foretold(1, what));
        Polls.beyond(d, "foretold(60, ..)", 0, 1, NONE, what -> x.foretold(60, what));
        d.same("nothing is done", Polls.seen(x), ahead);
    }

    @Sentence(promise = 19, says = "All that follows changes nothing but what is told.")
    static void askingChangesNothing(Due d) {
        TruePoll x = Polls.ruled(Polls.four(), "says own - figure; sways heard - 1; tell 2;");
        TruePoll twin = Polls.ruled(Polls.four(), "says own - figure; sways heard - 1; tell 2;");
        for (TruePoll each : new TruePoll[] {x, twin}) {
            each.hear(0, 1);
            each.hear(1, 2);
            each.day(3);
            each.party(1, 3);
            each.said(2, 2);
            each.village(4, 4);
        }
        String ahead = Polls.seen(x);
        askAll(x);
        d.same("behind all that is asked", Polls.seen(x), ahead);
        d.is("day(2)", x.day(2), twin.day(2));
        d.same("the ROUNDS to come", Polls.seen(x), Polls.seen(twin));
        x.undo();
        twin.undo();
        d.same("the STEPS taken back", Polls.seen(x), Polls.seen(twin));
        x.back();
        d.is("THE IMAGE", x.about(0), 0);
    }

    private static void askAll(TruePoll x) {
        x.foretold(60, 0);
        x.foretold(7, 1);
        for (int f = 0; f <= 4; f++) {
            x.comes(f);
            x.ends(f, true);
            x.ends(f, false);
            x.till(f);
            x.leads(f);
            x.path(f, 4 - f, f);
            x.win(f, true);
            x.two(f, 4 - f, 2);
            x.split(f, 4 - f);
            x.mind(f, 4);
            x.move(f - 1, f);
            x.cheapest(f);
            x.lives(f);
            x.ledger(f);
            x.game(f);
            x.choice(f);
            x.sure(f, f, true);
            x.mean(f, false);
        }
        x.trues();
        x.firm();
        x.rings();
        x.nearest();
        x.unasked(true);
        x.alike(0, 1);
        x.pair(true);
        x.reach(0);
        x.circles();
        x.loud();
        x.part();
        x.most();
        x.fewest(false);
        x.decimal(1, 7, 9);
        x.decimals(1, 7, true);
        x.window(3, 3);
        x.busiest(3);
        x.whose();
        x.honest();
        x.changes();
    }
}
