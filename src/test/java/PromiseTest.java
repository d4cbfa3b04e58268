/** At least one test for each promise: ordinary arguments, the edges that are named, wrong ones. */
public final class PromiseTest {
    private static final int NONE = TruePoll.NONE;
    private static final int LOW = Integer.MIN_VALUE;
    private static final int HIGH = Integer.MAX_VALUE;
    private static final int[] WRONG = {-1, LOW, HIGH, -2, 1 << 20};

    private static final Due DUE = new Due("PromiseTest");

    private PromiseTest() {
    }

    public static void main(String[] args) {
        newObject();
        person();
        hear();
        tape();
        textAndFault();
        by();
        tell();
        nudge();
        day();
        lastRound();
        played();
        years();
        undo();
        undoPeople();
        of();
        says();
        is();
        book();
        foretold();
        comesToFirm();
        ringsToNearest();
        path();
        win();
        twoAndSplit();
        mindToPair();
        move();
        cheapest();
        sure();
        mean();
        heard();
        part();
        game();
        parties();
        decimals();
        villages();
        saidAndWhose();
        honest();
        changesAndLedger();
        imageAndBack();
        imageOfWhatIsTold();
        about();
        DUE.close();
    }

    /** The four of the document's kinds, one of each SORT: comes of 0 .. 4 are 2 3 3 3 3. */
    private static TruePoll four() {
        TruePoll x = new TruePoll();
        x.person(6, 0);
        x.person(0, 1);
        x.person(0, 2);
        x.person(3, 3);
        return x;
    }

    /** So many people, and a law by which all say as it says. */
    private static TruePoll ruled(int people, String text) {
        TruePoll x = new TruePoll();
        for (int i = 0; i < people; i++) {
            x.person(i, i % 4);
        }
        DUE.is("text " + text, Feeder.read(x, text), 0);
        DUE.yes("by(0)", x.by(0));
        return x;
    }

    // promise 1
    private static void newObject() {
        TruePoll x = new TruePoll();
        DUE.is("NONE", TruePoll.NONE, -1);
        DUE.is("nobody", x.about(0), 0);
        DUE.is("is(0)", x.is(0), 0);
        DUE.is("is(1)", x.is(1), 449);
        DUE.is("is(2)", x.is(2), 0);
        DUE.is("is(3)", x.is(3), 0);
        DUE.is("is(4)", x.is(4), 0);
        x.person(1, 1);
        x.day(1);
        DUE.is("back to the new object", x.back(), 0);
        DUE.is("nobody again", x.about(0), 0);
        DUE.is("X again", x.is(1), 449);
        DUE.is("no STEPS", x.about(3), 0);
    }

    // promise 2
    private static void person() {
        TruePoll x = new TruePoll();
        for (int wrong : WRONG) {
            DUE.is("lean " + wrong, x.person(wrong, 0), NONE);
            DUE.is("sort " + wrong, x.person(0, wrong), NONE);
        }
        DUE.is("lean 10", x.person(10, 0), NONE);
        DUE.is("sort 4", x.person(0, 4), NONE);
        DUE.is("none came", x.about(0), 0);
        for (int i = 0; i < 8; i++) {
            DUE.is("person " + i, x.person(i + 2, i % 4), i);
        }
        DUE.is("a ninth", x.person(0, 0), NONE);
        DUE.is("eight", x.about(0), 8);
        DUE.is("lean of 7", x.of(7, 0), 9);
        DUE.is("sort of 7", x.of(7, 1), 3);
        DUE.is("hears nobody", x.of(7, 2), 0);
        DUE.is("answer no", x.of(7, 3), 0);
    }

    // promise 3
    private static void hear() {
        TruePoll x = four();
        DUE.yes("hear(0, 3)", x.hear(0, 3));
        DUE.yes("hear(0, 1)", x.hear(0, 1));
        DUE.is("hears 1 and 3", x.of(0, 2), 10);
        DUE.yes("hear(0, 3) again", x.hear(0, 3));
        DUE.is("hears 1", x.of(0, 2), 2);
        DUE.is("1 hears nobody", x.of(1, 2), 0);
        DUE.no("itself", x.hear(2, 2));
        DUE.no("4 is nobody", x.hear(4, 0));
        DUE.no("of 4", x.hear(0, 4));
        for (int wrong : WRONG) {
            DUE.no("hear(wrong, 0)", x.hear(wrong, 0));
            DUE.no("hear(0, wrong)", x.hear(0, wrong));
            DUE.no("hear(wrong, wrong)", x.hear(wrong, wrong));
        }
        DUE.is("no STEP", x.about(3), 0);
    }

    // promises 4, 5
    private static void tape() {
        TruePoll x = new TruePoll();
        for (int i = 1; i <= 15; i++) {
            DUE.is("feed " + i, x.feed(-1, LOW, HIGH, 0, 1), 20 * i);
        }
        DUE.is("the sixteenth", x.feed(0, 0, 0, 0, 0), NONE);
        DUE.is("300 yet", x.about(5), 300);
        DUE.is("end(301)", x.end(301), NONE);
        DUE.is("end(-1)", x.end(-1), NONE);
        DUE.is("end(LOW)", x.end(LOW), NONE);
        DUE.is("end(HIGH)", x.end(HIGH), NONE);
        DUE.is("end(300)", x.end(300), 300);
        DUE.is("end(281)", x.end(281), 281);
        DUE.is("301 would be", x.feed(0, 0, 0, 0, 0), NONE);
        DUE.is("281 yet", x.about(5), 281);
        DUE.is("end(280)", x.end(280), 280);
        DUE.is("300 just", x.feed(0, 0, 0, 0, 0), 300);
        DUE.is("end(0)", x.end(0), 0);
        DUE.is("end(1)", x.end(1), NONE);
        // "day 1;" by its bytes, the highest first
        DUE.is("feed", x.feed(0x64617920, 0x313b4041, 0, 0, 0), 20);
        DUE.is("end(6)", x.end(6), 6);
        DUE.is("text()", x.text(), 0);
    }

    // promises 6, 7
    private static void textAndFault() {
        TruePoll x = new TruePoll();
        DUE.is("fault(0) ahead of any", x.fault(0), NONE);
        DUE.is("fault(1) ahead of any", x.fault(1), NONE);
        DUE.is("an empty text", x.text(), 0);
        DUE.is("fault(0)", x.fault(0), 0);
        DUE.is("fault(1)", x.fault(1), NONE);
        DUE.is("a fault", Feeder.read(x, "says 1; says 2;"), NONE);
        DUE.is("fault(0) 4", x.fault(0), 4);
        DUE.is("fault(1) 8", x.fault(1), 8);
        DUE.is("fault(2)", x.fault(2), NONE);
        for (int wrong : WRONG) {
            DUE.is("fault(wrong)", x.fault(wrong), NONE);
        }
        DUE.is("the tape is empty behind a fault", x.about(5), 0);
        DUE.is("text 1", Feeder.read(x, "day 1;"), 1);
        DUE.is("the tape is empty behind a text", x.about(5), 0);
        DUE.is("fault(0) 0", x.fault(0), 0);
        DUE.is("text 2", Feeder.read(x, "\n says 1\n;"), 2);
        DUE.is("no text", Feeder.read(x, "foo"), NONE);
        DUE.is("text 3", Feeder.read(x, "tell 0;"), 3);
        DUE.is("a fifth", Feeder.read(x, "foo"), NONE);
        DUE.is("its tape stays", x.about(5), 3);
        DUE.is("it was not read", x.fault(0), 0);
        DUE.is("four texts", x.about(1), 4);
    }

    // promise 8
    private static void by() {
        TruePoll x = four();
        DUE.no("by(0) without", x.by(0));
        DUE.yes("by(NONE)", x.by(NONE));
        Feeder.read(x, "says 1;");
        DUE.is("not yet the law", x.comes(0), 2);
        DUE.yes("by(0)", x.by(0));
        DUE.is("the law", x.comes(0), 4);
        DUE.no("by(1)", x.by(1));
        DUE.no("by(-2)", x.by(-2));
        DUE.no("by(LOW)", x.by(LOW));
        DUE.no("by(HIGH)", x.by(HIGH));
        DUE.is("still the law", x.about(2), 0);
        DUE.yes("by(NONE)", x.by(NONE));
        DUE.is("by SORT again", x.comes(0), 2);
    }

    // promise 9
    private static void tell() {
        TruePoll x = four();
        // X: 449, 8588, 7001, 30039, 9590: mod 20 9, 8, 1, 19: nobody says the other one
        DUE.is("tell(1)", x.tell(1), 3);
        DUE.is("answers", x.is(3), 13);
        DUE.is("X", x.is(1), 9590);
        DUE.is("round", x.is(0), 1);
        // then 9590, 3660, 19778, 27296: mod 20 10, 0, 18, 16: 1 says the other one
        DUE.is("tell(5)", x.tell(5), NONE);
        for (int wrong : WRONG) {
            DUE.is("tell(wrong)", x.tell(wrong), NONE);
        }
        DUE.is("round yet", x.is(0), 1);
        DUE.is("tell(0)", x.tell(0), 3);
        DUE.is("answers of 0", x.is(3), 7);
        DUE.is("STEPS", x.about(3), 2);
        TruePoll y = new TruePoll();
        DUE.is("with nobody", y.tell(0), 0);
        DUE.is("a ROUND for all that", y.is(0), 1);
        DUE.is("no draw", y.is(1), 449);
        DUE.is("1 is too many", y.tell(1), NONE);
        draws();
    }

    private static void draws() {
        TruePoll x = ruled(8, "says 0;");
        int at = 449;
        int due = 0;
        int others = 0;
        for (int round = 0; round < 30; round++) {
            due = 0;
            for (int p = 0; p < 8; p++) {
                due |= at % 20 == 0 ? 1 << p : 0;
                at = (at * 709 + 577) % 31033;
            }
            DUE.is("tell(0) in round " + round, x.tell(0), Integer.bitCount(due));
            DUE.is("who drew 0", x.is(3), due);
            others += Integer.bitCount(due);
        }
        DUE.yes("some drew 0", others > 0);
    }

    // promise 10
    private static void nudge() {
        TruePoll x = four();
        DUE.yes("6 by 3", x.nudge(0, 3));
        DUE.is("9", x.of(0, 0), 9);
        DUE.no("above 9", x.nudge(0, 1));
        DUE.yes("by -9", x.nudge(0, -9));
        DUE.no("below 0", x.nudge(0, -1));
        DUE.yes("by 9", x.nudge(0, 9));
        DUE.no("as it is", x.nudge(0, 0));
        DUE.no("by 10", x.nudge(0, 10));
        DUE.no("by -10", x.nudge(0, -10));
        DUE.no("nobody", x.nudge(4, 1));
        for (int wrong : WRONG) {
            DUE.no("nudge(wrong, 1)", x.nudge(wrong, 1));
        }
        DUE.no("by LOW", x.nudge(3, LOW));
        DUE.no("by HIGH", x.nudge(3, HIGH));
        DUE.is("STEPS", x.about(3), 3);
        DUE.is("no ROUND", x.is(0), 0);
    }

    // promise 11
    private static void day() {
        TruePoll x = four();
        DUE.is("day(0)", x.day(0), NONE);
        DUE.is("day(61)", x.day(61), NONE);
        for (int wrong : WRONG) {
            DUE.is("day(wrong)", x.day(wrong), NONE);
        }
        DUE.is("day(1)", x.day(1), 2);
        DUE.is("told 0", x.book(0, 1), 0);
        DUE.is("day(1)", x.day(1), x.is(2));
        DUE.is("told 2", x.book(1, 1), 2);
        DUE.is("a STEP each", x.about(3), 2);
        x.day(3);
        DUE.is("five STEPS", x.about(3), 5);
        x.day(60);
        DUE.is("65 rounds", x.is(0), 65);
        DUE.is("30 STEPS", x.about(3), 30);
    }

    /** Promises 9, 11, 12, 13, 19 where ROUND is 9999. */
    private static void lastRound() {
        TruePoll x = ruled(2, "day 60;");
        for (int i = 0; i < 166; i++) {
            x.day(60);
        }
        DUE.is("9960", x.is(0), 9960);
        DUE.is("day(40)", x.day(40), NONE);
        DUE.is("9960 yet", x.is(0), 9960);
        x.foretold(60, 0);
        int foretold = x.foretold(39, 1);
        DUE.is("those that can pass", x.foretold(60, 1), foretold);
        x.image();
        DUE.is("day(39)", x.day(39), Integer.bitCount(foretold));
        DUE.is("as foretold", x.is(3), foretold);
        DUE.is("9999", x.is(0), 9999);
        DUE.is("tell", x.tell(0), NONE);
        DUE.is("day(1)", x.day(1), NONE);
        DUE.is("foretold", x.foretold(1, 1), foretold);
        DUE.is("STEPS", x.about(3), 30);
        DUE.yes("a nudge can be", x.nudge(0, 1));
        DUE.is("years", x.years(3, 40), 9999);
        x.back();
        DUE.is("9960 again", x.is(0), 9960);
        DUE.is("played: those that can pass do", x.played(0), 0);
        DUE.is("9999 by the text", x.is(0), 9999);
        DUE.is("as foretold", x.is(3), foretold);
    }

    // promise 12
    private static void played() {
        TruePoll x = new TruePoll();
        DUE.is("no text", x.played(0), -2);
        Feeder.read(x, "person 8 sort 0; says 1; person 2 sort 1; hear 0 from 1; up 0; down 1; tell 1; day 2; tell 3; day 1;");
        DUE.is("tell 3 can't be", x.played(0), 8);
        DUE.is("people", x.about(0), 2);
        DUE.is("0 hears 1", x.of(0, 2), 2);
        DUE.is("lean of 0", x.of(0, 0), 9);
        DUE.is("lean of 1", x.of(1, 0), 1);
        DUE.is("rounds", x.is(0), 3);
        DUE.is("STEPS", x.about(3), 5);
        DUE.is("the law is not its", x.about(2), NONE);
        DUE.is("up 0 can't be now", x.played(0), 4);
        DUE.is("4 people", x.about(0), 4);
        DUE.is("heard no more", x.of(0, 2), 0);
        DUE.is("a text of laws alone", Feeder.read(x, "says 1;sways 1;"), 1);
        DUE.is("all is done", x.played(1), NONE);
        DUE.is("an empty one", Feeder.read(x, ""), 2);
        DUE.is("all of it", x.played(2), NONE);
        for (int wrong : WRONG) {
            DUE.is("played(wrong)", x.played(wrong), -2);
        }
        DUE.is("played(3)", x.played(3), -2);
        x.played(0);
        x.played(0);
        DUE.is("eight people", x.about(0), 8);
        DUE.is("no ninth", x.played(0), 0);
        Feeder.read(x, "hear 2 from 2;");
        DUE.is("not itself", x.played(3), 0);
    }

    // promise 13
    private static void years() {
        TruePoll x = four();
        DUE.is("seed -1", x.years(-1, 1), NONE);
        DUE.is("seed 10000", x.years(10000, 1), NONE);
        DUE.is("n 0", x.years(0, 0), NONE);
        DUE.is("n 41", x.years(0, 41), NONE);
        DUE.is("LOW", x.years(LOW, LOW), NONE);
        DUE.is("HIGH", x.years(HIGH, HIGH), NONE);
        // SEED 3: 455 mod 6 is 5: a ROUND
        DUE.is("a ROUND", x.years(3, 1), 1);
        DUE.is("told 0", x.book(0, 1), 0);
        DUE.is("one STEP", x.about(3), 1);
        // SEED 1: 451 mod 6 is 1: PERSON 75 mod 8, that is 3, by -1
        TruePoll y = four();
        DUE.is("a nudge", y.years(1, 1), 0);
        DUE.is("3 by -1", y.of(3, 0), 2);
        DUE.is("X behind 451", y.is(1), (451 * 709 + 577) % 31033);
        DUE.is("undo", y.undo(), 0);
        DUE.is("3 again", y.of(3, 0), 3);
        DUE.is("X again", y.is(1), 449);
        // SEED 4: 457: PERSON 76 mod 8 is 4: nobody; a STEP for all that
        DUE.is("nothing", y.years(4, 1), 0);
        DUE.is("a STEP", y.about(3), 1);
        yearsByModel();
    }

    /** Many years against what the document's words come to, step by step. */
    private static void yearsByModel() {
        int told = 0;
        for (int seed = 0; seed <= 9999; seed += 1111) {
            TruePoll x = ruled(8, "says own - 4; sways if yes = 1 then 0 - 1 else 1 end;");
            PlainPoll due = new PlainPoll();
            for (int i = 0; i < 8; i++) {
                due.person(i, i % 4);
            }
            due.tape = "says own - 4; sways if yes = 1 then 0 - 1 else 1 end;";
            due.text();
            due.by(0);
            DUE.is("years(" + seed + ", 40)", x.years(seed, 40), due.years(seed, 40));
            DUE.is("X", x.is(1), due.is(1));
            DUE.is("LEANS", x.is(4), due.is(4));
            DUE.is("ANSWERS", x.is(3), due.is(3));
            for (int i = 0; i < 30; i++) {
                DUE.is("book", x.book(i, 1), due.book(i, 1));
                told += x.book(i, 1) >= 0 && i > 0 && x.book(i, 1) != x.book(i - 1, 2) ? 1 : 0;
            }
        }
        DUE.yes("some figures were TOLD", told > 0);
    }

    // promise 14
    private static void undo() {
        TruePoll x = four();
        DUE.is("none", x.undo(), NONE);
        x.tell(1);
        x.nudge(0, 1);
        x.day(2);
        DUE.is("day", x.undo(), 3);
        DUE.is("round 2", x.is(0), 2);
        DUE.is("day", x.undo(), 2);
        DUE.is("round 1", x.is(0), 1);
        DUE.is("book", x.book(NONE, 0), 1);
        DUE.is("lean 7", x.of(0, 0), 7);
        DUE.is("nudge", x.undo(), 1);
        DUE.is("lean 6", x.of(0, 0), 6);
        DUE.is("answers", x.is(3), 13);
        DUE.is("tell", x.undo(), 0);
        DUE.is("answers", x.is(3), 0);
        DUE.is("figure", x.is(2), 0);
        DUE.is("X", x.is(1), 449);
        DUE.is("book", x.book(NONE, 0), 0);
        DUE.is("none", x.undo(), NONE);
        x.day(40);
        DUE.is("30 STEPS", x.about(3), 30);
        for (int i = 29; i >= 0; i--) {
            DUE.is("undo", x.undo(), i);
        }
        DUE.is("none", x.undo(), NONE);
        DUE.is("round 10", x.is(0), 10);
        DUE.is("ten lines", x.book(NONE, 0), 10);
        x.day(60);
        x.undo();
        DUE.is("the eldest line is back", x.book(0, 0), 39);
    }

    private static void undoPeople() {
        TruePoll x = new TruePoll();
        x.person(5, 0);
        x.nudge(0, 2);
        x.person(3, 1);
        x.hear(1, 0);
        x.nudge(1, 4);
        x.tell(2);
        DUE.is("1 says yes", x.of(1, 3), 1);
        DUE.is("undo the tell", x.undo(), 2);
        DUE.is("answer no", x.is(3), 0);
        DUE.is("lean of 1", x.of(1, 0), 7);
        x.tell(2);
        x.undo();
        x.undo();
        DUE.is("lean of 1 as told", x.of(1, 0), 3);
        x.nudge(1, 4);
        x.tell(2);
        x.undo();
        x.undo();
        DUE.is("all", x.undo(), 0);
        DUE.is("lean of 0", x.of(0, 0), 5);
        DUE.is("told since: as told", x.of(1, 0), 3);
        DUE.is("there yet", x.about(0), 2);
        DUE.is("hears yet", x.of(1, 2), 1);
    }

    // promise 15
    private static void of() {
        TruePoll x = ruled(3, "sways if yes = 1 then 5 else 0 - figure end;");
        x.hear(2, 0);
        x.hear(2, 1);
        DUE.is("lean", x.of(2, 0), 2);
        DUE.is("sort", x.of(2, 1), 2);
        DUE.is("hears", x.of(2, 2), 3);
        DUE.is("answer", x.of(2, 3), 0);
        DUE.is("2 at most", x.of(2, 4), 2);
        DUE.is("the FIGURE is 0", x.of(2, 5), 0);
        x.tell(0);
        DUE.is("answer now", x.of(2, 3), 1);
        DUE.is("the FIGURE is 1", x.is(2), 1);
        DUE.is("told no", x.of(2, 5), -1);
        DUE.is("6", x.of(2, 6), -10);
        DUE.is("-1", x.of(2, -1), -10);
        DUE.is("person 3", x.of(3, 0), -10);
        for (int wrong : WRONG) {
            DUE.is("of(wrong, 0)", x.of(wrong, 0), -10);
            DUE.is("of(0, wrong)", x.of(0, wrong), -10);
        }
        TruePoll y = ruled(1, "sways 0 - 9;");
        DUE.is("-2 at least", y.of(0, 4), -2);
        y.by(NONE);
        DUE.is("0 without", y.of(0, 4), 0);
    }

    // promise 16
    private static void says() {
        TruePoll x = four();
        DUE.yes("steady 6", x.says(0, 0));
        x.nudge(0, -2);
        DUE.no("steady 4", x.says(0, 8));
        DUE.no("with: 1 of 4", x.says(1, 1));
        DUE.yes("with: 2 of 4", x.says(1, 2));
        DUE.yes("with: 8", x.says(1, 8));
        DUE.yes("against: 1 of 4", x.says(2, 1));
        DUE.no("against: 2 of 4", x.says(2, 2));
        DUE.no("near 3: 0", x.says(3, 0));
        DUE.yes("near 3: 1", x.says(3, 1));
        DUE.yes("near 3: 5", x.says(3, 5));
        DUE.no("near 3: 6", x.says(3, 6));
        DUE.no("figure 9", x.says(2, 9));
        DUE.no("figure -1", x.says(2, -1));
        DUE.no("person 4", x.says(4, 1));
        for (int wrong : WRONG) {
            DUE.no("says(wrong, 1)", x.says(wrong, 1));
            DUE.no("says(2, wrong)", x.says(2, wrong));
        }
        TruePoll y = ruled(2, "says who;");
        DUE.no("0 is not above 0", y.says(0, 0));
        DUE.yes("1 is", y.says(1, 0));
    }

    // promise 17
    private static void is() {
        TruePoll x = four();
        DUE.is("LEANS", x.is(4), 9);
        x.tell(4);
        DUE.is("ROUND", x.is(0), 1);
        DUE.is("FIGURE", x.is(2), 3);
        DUE.is("ANSWERS", x.is(3), 11);
        DUE.is("5", x.is(5), -2);
        for (int wrong : WRONG) {
            DUE.is("is(wrong)", x.is(wrong), -2);
        }
    }

    // promise 18
    private static void book() {
        TruePoll x = four();
        DUE.is("empty", x.book(NONE, 0), 0);
        DUE.is("no line", x.book(0, 0), -2);
        x.tell(4);
        x.tell(1);
        DUE.is("two", x.book(NONE, 0), 2);
        DUE.is("ROUND of the first", x.book(0, 0), 0);
        DUE.is("told", x.book(0, 1), 4);
        DUE.is("FIGURE", x.book(0, 2), 3);
        DUE.is("ROUND of the second", x.book(1, 0), 1);
        DUE.is("told", x.book(1, 1), 1);
        DUE.is("3", x.book(0, 3), -2);
        DUE.is("-1", x.book(0, -1), -2);
        DUE.is("line 2", x.book(2, 0), -2);
        DUE.is("line -2", x.book(-2, 0), -2);
        DUE.is("LOW", x.book(LOW, LOW), -2);
        DUE.is("HIGH", x.book(HIGH, HIGH), -2);
        x.day(28);
        DUE.is("thirty", x.book(NONE, 0), 30);
        DUE.is("the eldest", x.book(0, 0), 0);
        x.day(1);
        DUE.is("thirty yet", x.book(NONE, 0), 30);
        DUE.is("the eldest is 1", x.book(0, 0), 1);
        DUE.is("the latest is 30", x.book(29, 0), 30);
        DUE.is("its FIGURE", x.book(29, 2), x.is(2));
        DUE.is("what it was told", x.book(29, 1), x.book(28, 2));
    }

    // promise 19
    private static void foretold() {
        TruePoll x = ruled(8, "says own - figure; sways if yes = 1 then 0 - 1 else heard end;");
        x.hear(0, 7);
        x.hear(1, 7);
        for (int n = 1; n <= 60; n += 7) {
            int figure = x.foretold(n, 0);
            int answers = x.foretold(n, 1);
            DUE.is("nothing is changed", x.is(0), 0);
            x.image();
            DUE.is("day(" + n + ")", x.day(n), figure);
            DUE.is("answers", x.is(3), answers);
            x.back();
            DUE.is("X", x.is(1), 449);
        }
        int sways = x.of(7, 5);
        x.foretold(60, 0);
        DUE.is("sways as now", x.of(7, 5), sways);
        TruePoll y = ruled(4, "sways own - 2;");
        y.foretold(60, 0);
        DUE.is("by the LEAN as now", y.of(1, 4), -1);
        y.move(1, 2);
        DUE.is("by no LEAN that was tried", y.of(1, 4), -1);
        DUE.is("0", x.foretold(0, 0), NONE);
        DUE.is("61", x.foretold(61, 0), NONE);
        DUE.is("what 2", x.foretold(1, 2), NONE);
        for (int wrong : WRONG) {
            DUE.is("foretold(wrong, 0)", x.foretold(wrong, 0), NONE);
            DUE.is("foretold(1, wrong)", x.foretold(1, wrong), NONE);
        }
    }

    // promises 20, 21, 22
    private static void comesToFirm() {
        TruePoll x = four();
        int[] comes = {2, 3, 3, 3, 3};
        for (int f = 0; f <= 4; f++) {
            DUE.is("comes(" + f + ")", x.comes(f), comes[f]);
        }
        DUE.is("comes(5)", x.comes(5), NONE);
        for (int wrong : WRONG) {
            DUE.is("comes(wrong)", x.comes(wrong), NONE);
        }
        DUE.is("trues", x.trues(), 8);
        DUE.is("firm", x.firm(), 8);
        TruePoll y = ruled(4, "says figure - who;");
        DUE.is("all are true", y.trues(), 31);
        DUE.is("none is firm", y.firm(), 0);
        TruePoll z = ruled(4, "says if figure <= 1 then 0 else 1 end;");
        DUE.is("0 and 4", z.trues(), 17);
        DUE.is("both firm at the ends", z.firm(), 17);
        TruePoll none = ruled(4, "says if figure = 4 then 0 else 1 end;");
        DUE.is("none", none.trues(), 0);
        DUE.is("none firm", none.firm(), 0);
    }

    // promises 23 .. 27
    private static void ringsToNearest() {
        // of 0 .. 4 come 1 2 0 4 4
        TruePoll x = ruled(4, "says if figure = 0 then 1 - who else if figure = 1 then 2 - who else "
            + "if figure = 2 then 0 else 1 end end end;");
        int[] comes = {1, 2, 0, 4, 4};
        for (int f = 0; f <= 4; f++) {
            DUE.is("comes(" + f + ")", x.comes(f), comes[f]);
            DUE.is("lowest", x.ends(f, false), f < 3 ? 0 : 4);
            DUE.is("size", x.ends(f, true), f < 3 ? 3 : 1);
            DUE.is("till", x.till(f), f == 3 ? 1 : 0);
            DUE.is("leads", x.leads(f), f < 3 ? 7 : f == 3 ? 8 : 24);
        }
        DUE.is("rings", x.rings(), 2);
        DUE.is("nearest", x.nearest(), 4);
        TruePoll y = ruled(3, "says if figure >= 2 then 0 else 1 end;");
        // of 0 .. 3 come 3 3 0 0: one ring of 0 and 3; 1 and 2 are nearest by 2
        DUE.is("lowest", y.ends(1, false), 0);
        DUE.is("size", y.ends(2, true), 2);
        DUE.is("till of 1", y.till(1), 1);
        DUE.is("leads to 0", y.leads(0), 15);
        DUE.is("leads to 1", y.leads(1), 2);
        DUE.is("one ring", y.rings(), 1);
        DUE.is("nearest, the lowest", y.nearest(), 1);
        for (int wrong : WRONG) {
            DUE.is("ends", y.ends(wrong, true), NONE);
            DUE.is("till", y.till(wrong), NONE);
            DUE.is("leads", y.leads(wrong), NONE);
        }
        DUE.is("ends(4)", y.ends(4, false), NONE);
        DUE.is("till(4)", y.till(4), NONE);
        DUE.is("leads(4)", y.leads(4), NONE);
        TruePoll all = ruled(8, "says figure - who;");
        DUE.is("nine rings", all.rings(), 9);
        DUE.is("leads to itself", all.leads(8), 256);
    }

    // promise 28
    private static void path() {
        TruePoll x = four();
        DUE.is("0 to 3 by 0", x.path(0, 3, 0), 2);
        DUE.is("0 to 3 by 1", x.path(0, 3, 1), 1);
        DUE.is("3 to 0", x.path(3, 0, 8), NONE);
        DUE.is("to itself", x.path(1, 1, 0), 0);
        DUE.is("3 to 2 by 3", x.path(3, 2, 3), 1);
        DUE.is("3 to 2 by 2", x.path(3, 2, 2), NONE);
        DUE.is("k -1", x.path(0, 3, -1), NONE);
        DUE.is("k 9", x.path(0, 3, 9), NONE);
        DUE.is("a 5", x.path(5, 3, 1), NONE);
        DUE.is("b 5", x.path(3, 5, 1), NONE);
        DUE.is("5 to 5", x.path(5, 5, 1), NONE);
        for (int wrong : WRONG) {
            DUE.is("path", x.path(wrong, 3, 1), NONE);
            DUE.is("path", x.path(3, wrong, 1), NONE);
            DUE.is("path", x.path(0, 3, wrong), NONE);
        }
        TruePoll y = ruled(8, "says figure - who;");
        DUE.is("0 to 8 by 1", y.path(0, 8, 1), 8);
        DUE.is("0 to 8 by 3", y.path(0, 8, 3), 3);
        DUE.is("8 to 1 by 8", y.path(8, 1, 8), 1);
        DUE.is("0 to 8 by 0", y.path(0, 8, 0), NONE);
    }

    // promise 29
    private static void win() {
        TruePoll x = four();
        DUE.is("win 4", x.win(4, false), 4);
        DUE.is("one", x.win(4, true), 1);
        DUE.is("win 3", x.win(3, false), 0);
        DUE.is("nobody", x.win(3, true), 0);
        DUE.is("win 2", x.win(2, false), NONE);
        DUE.is("win 2", x.win(2, true), NONE);
        DUE.is("win 5", x.win(5, false), NONE);
        for (int wrong : WRONG) {
            DUE.is("win", x.win(wrong, true), NONE);
        }
        TruePoll y = ruled(8, "says if who = 1 then 1 else 0 end;");
        DUE.is("0, 2, 3", y.win(4, false), 13);
        DUE.is("three", y.win(4, true), 3);
        DUE.is("all others", y.win(8, false), 253);
        DUE.is("0", y.win(0, false), NONE);
    }

    // promises 30, 31
    private static void twoAndSplit() {
        TruePoll x = four();
        DUE.is("fewest", x.two(0, 4, 0), 1);
        DUE.is("most", x.two(0, 4, 1), 4);
        DUE.is("ways", x.two(0, 4, 2), 0);
        DUE.is("no split", x.split(0, 4), NONE);
        DUE.is("ways of 1 and 2", x.two(1, 2, 2), 3);
        DUE.is("split of 1 and 2", x.split(1, 2), 1);
        DUE.is("what 3", x.two(1, 2, 3), NONE);
        DUE.is("a 5", x.two(5, 2, 0), NONE);
        DUE.is("b 5", x.two(1, 5, 0), NONE);
        DUE.is("split 5", x.split(5, 1), NONE);
        DUE.is("split 5", x.split(1, 5), NONE);
        for (int wrong : WRONG) {
            DUE.is("two", x.two(wrong, 1, 0), NONE);
            DUE.is("two", x.two(1, wrong, 0), NONE);
            DUE.is("two", x.two(1, 1, wrong), NONE);
            DUE.is("split", x.split(wrong, 1), NONE);
            DUE.is("split", x.split(1, wrong), NONE);
        }
        TruePoll all = ruled(8, "says 1;");
        DUE.is("8 say yes", all.two(3, 5, 0), 8);
        DUE.is("3 of 8", all.two(3, 5, 2), 56);
        DUE.is("the lowest 3", all.split(3, 5), 7);
        DUE.is("not all", all.split(3, 4), NONE);
        TruePoll none = new TruePoll();
        DUE.is("nobody parted", none.two(0, 0, 2), 1);
        DUE.is("nobody", none.split(0, 0), 0);
    }

    // promises 32 .. 35
    private static void mindToPair() {
        TruePoll x = four();
        DUE.is("1 and 2", x.mind(1, 2), 6);
        DUE.is("0 and 4", x.mind(0, 4), 14);
        DUE.is("2 and 2", x.mind(2, 2), 0);
        DUE.is("5", x.mind(5, 0), NONE);
        DUE.is("5", x.mind(0, 5), NONE);
        DUE.is("by all", x.unasked(false), 1);
        DUE.is("by any", x.unasked(true), 4);
        DUE.is("0 and 1", x.alike(0, 1), 3);
        DUE.is("1 and 0", x.alike(1, 0), 3);
        DUE.is("itself", x.alike(2, 2), 5);
        DUE.is("4", x.alike(4, 0), NONE);
        DUE.is("4", x.alike(0, 4), NONE);
        DUE.is("one", x.pair(false), 0);
        DUE.is("other", x.pair(true), 3);
        for (int wrong : WRONG) {
            DUE.is("mind", x.mind(wrong, 0), NONE);
            DUE.is("mind", x.mind(0, wrong), NONE);
            DUE.is("alike", x.alike(wrong, 0), NONE);
            DUE.is("alike", x.alike(0, wrong), NONE);
        }
        TruePoll y = new TruePoll();
        DUE.is("nobody by all", y.unasked(false), 0);
        DUE.is("nobody by any", y.unasked(true), 0);
        DUE.is("none", y.pair(false), NONE);
        y.person(0, 0);
        DUE.is("one alone", y.pair(false), NONE);
        DUE.is("one alone", y.pair(true), NONE);
        y.person(9, 0);
        DUE.is("never alike, yet the most", y.pair(false), 0);
        DUE.is("never alike, yet the most", y.pair(true), 1);
        DUE.is("never alike", y.alike(0, 1), 0);
    }

    // promise 36
    private static void move() {
        TruePoll x = four();
        DUE.is("6 to 4", x.move(0, 2), 4);
        DUE.is("with", x.move(1, 2), NONE);
        DUE.is("3 told 0", x.move(3, 0), 2);
        DUE.is("3 told 4: 1 or 7", x.move(3, 4), 1);
        DUE.is("person 4", x.move(4, 0), NONE);
        DUE.is("figure 5", x.move(0, 5), NONE);
        for (int wrong : WRONG) {
            DUE.is("move", x.move(wrong, 0), NONE);
            DUE.is("move", x.move(0, wrong), NONE);
        }
        DUE.is("nothing changed", x.is(4), 9);
        TruePoll y = ruled(6, "says if own = 2 or own = 4 or lean who = 9 then 1 else 0 end;");
        DUE.is("of like ones the lower", y.move(3, 0), 2);
        DUE.is("2 says no by 1", y.move(2, 0), 1);
        DUE.is("5", y.move(5, 0), 4);
        DUE.is("0", y.move(0, 0), 2);
        TruePoll z = ruled(2, "says lean 0 - 8;");
        DUE.is("by another's LEAN", z.move(1, 0), NONE);
        DUE.is("by its own", z.move(0, 0), 9);
    }

    // promise 37
    private static void cheapest() {
        TruePoll x = four();
        DUE.is("4", x.cheapest(4), NONE);
        DUE.is("3", x.cheapest(3), 0);
        DUE.is("2", x.cheapest(2), 2);
        DUE.is("1", x.cheapest(1), 3);
        DUE.is("0", x.cheapest(0), NONE);
        DUE.is("5", x.cheapest(5), NONE);
        for (int wrong : WRONG) {
            DUE.is("cheapest", x.cheapest(wrong), NONE);
        }
        TruePoll y = ruled(8, "says own - 4;");
        DUE.is("three say yes", y.comes(5), 3);
        DUE.is("4 and 3 move by 1 and 2", y.cheapest(5), 3);
        DUE.is("all of them", y.cheapest(8), 15);
        DUE.is("5, 6, 7 by 1, 2, 3", y.cheapest(0), 6);
    }

    // promise 38
    private static void sure() {
        TruePoll x = four();
        DUE.is("2 of 0", x.sure(2, 0, false), 1);
        DUE.is("2 of 0", x.sure(2, 0, true), 1);
        DUE.is("3 of 0", x.sure(3, 0, false), 0);
        DUE.is("3 of 0", x.sure(3, 0, true), 1);
        DUE.is("odds 1", x.sure(2, 1, false), 3443);
        DUE.is("odds 1", x.sure(2, 1, true), 5000);
        DUE.is("odds 10: the other two", x.sure(2, 10, false), 1);
        DUE.is("odds 5", x.sure(4, 5, false), 1);
        DUE.is("odds 5", x.sure(4, 5, true), 16);
        DUE.is("k 8", x.sure(8, 5, false), 0);
        DUE.is("k 8", x.sure(8, 5, true), 1);
        DUE.is("k 9", x.sure(9, 5, false), NONE);
        DUE.is("k -1", x.sure(-1, 5, true), NONE);
        DUE.is("odds 11", x.sure(1, 11, false), NONE);
        DUE.is("odds -1", x.sure(1, -1, true), NONE);
        for (int wrong : WRONG) {
            DUE.is("sure", x.sure(wrong, 1, true), NONE);
            DUE.is("sure", x.sure(1, wrong, false), NONE);
        }
        TruePoll y = ruled(8, "says 1;");
        DUE.is("0.9 to the 8th", y.sure(8, 1, false), 43046721);
        DUE.is("10 to the 8th", y.sure(8, 1, true), 100000000);
        x.tell(1);
        DUE.is("told 3, not 0", x.sure(3, 0, false), 1);
    }

    // promise 39
    private static void mean() {
        TruePoll x = four();
        DUE.is("odds 3", x.mean(3, false), 2);
        DUE.is("odds 3", x.mean(3, true), 1);
        x.tell(1);
        DUE.is("3 say yes: 27 + 1", x.mean(1, false), 14);
        DUE.is("by 5", x.mean(1, true), 5);
        DUE.is("odds 10", x.mean(10, false), 1);
        DUE.is("odds 11", x.mean(11, false), NONE);
        DUE.is("odds -1", x.mean(-1, true), NONE);
        for (int wrong : WRONG) {
            DUE.is("mean", x.mean(wrong, true), NONE);
        }
        TruePoll y = new TruePoll();
        DUE.is("nobody", y.mean(4, false), 0);
        DUE.is("nobody", y.mean(4, true), 1);
    }

    // promises 40, 41, 42
    private static void heard() {
        TruePoll x = new TruePoll();
        DUE.is("no circles", x.circles(), 0);
        DUE.is("none loud", x.loud(), NONE);
        for (int i = 0; i < 8; i++) {
            x.person(0, 0);
        }
        DUE.is("eight circles", x.circles(), 8);
        DUE.is("nobody is heard", x.loud(), NONE);
        for (int i = 0; i < 7; i++) {
            x.hear(7 - i, 6 - i);
        }
        DUE.is("a chain", x.reach(7), 127);
        DUE.is("its end", x.reach(0), 0);
        DUE.is("not itself", x.reach(3), 7);
        DUE.is("circles yet", x.circles(), 8);
        DUE.is("the lowest of like ones", x.loud(), 0);
        x.hear(1, 4);
        DUE.is("1 .. 4 are a circle", x.circles(), 5);
        DUE.is("itself, too", x.reach(1), 31);
        DUE.is("4 is heard twice", x.loud(), 4);
        x.hear(0, 7);
        DUE.is("all one circle", x.circles(), 1);
        DUE.is("all", x.reach(5), 255);
        DUE.is("person 8", x.reach(8), NONE);
        for (int wrong : WRONG) {
            DUE.is("reach", x.reach(wrong), NONE);
        }
    }

    // promise 43
    private static void part() {
        TruePoll x = four();
        DUE.is("without TEXTS", x.part(), 0);
        Feeder.read(x, "says 1;");
        DUE.is("one", x.part(), 0);
        Feeder.read(x, "says if figure >= 3 then 1 - who else 1 end;");
        DUE.is("3: 4 and 1", x.part(), 3);
        // without says by SORT: 2 3 3 3 3, so three unlike ones by 3 and 4 alone
        Feeder.read(x, "sways 1;");
        DUE.is("3: 4, 1 and 3", x.part(), 3);
        Feeder.read(x, "says if figure = 4 then 0 else 1 end;");
        DUE.is("4: 4, 1, 3, 0", x.part(), 4);
        DUE.is("nobody rules", x.about(2), NONE);
    }

    // promises 44, 45
    private static void game() {
        TruePoll x = four();
        DUE.is("0 ROUNDS", x.game(0), 0);
        DUE.is("1", x.game(1), 3);
        DUE.is("choice 1", x.choice(1), 1);
        DUE.is("2", x.game(2), 3);
        DUE.is("choice 2", x.choice(2), 0);
        DUE.is("9", x.game(9), NONE);
        DUE.is("choice 0", x.choice(0), NONE);
        DUE.is("choice 9", x.choice(9), NONE);
        for (int wrong : WRONG) {
            DUE.is("game", x.game(wrong), NONE);
            DUE.is("choice", x.choice(wrong), NONE);
        }
        // what is told comes: the first goes up, the other one down
        TruePoll y = ruled(8, "says figure - who;");
        y.tell(4);
        int figure = y.is(2);
        for (int n = 1; n <= 8; n++) {
            DUE.is("game(" + n + ")", y.game(n), n % 2 == 1 ? figure + 1 : figure);
            DUE.is("choice(" + n + ")", y.choice(n), figure + 1);
        }
        TruePoll none = new TruePoll();
        DUE.is("nobody", none.game(8), 0);
        DUE.is("nobody", none.choice(8), 0);
        TruePoll all = ruled(8, "says 1;");
        all.tell(8);
        DUE.is("at the end", all.game(1), 8);
        DUE.is("the lowest choice", all.choice(1), Math.max(0, all.is(2) - 1));
    }

    // promises 46 .. 49
    private static void parties() {
        TruePoll x = new TruePoll();
        DUE.is("none live", x.lives(0), 0);
        DUE.is("most without", x.most(), 0);
        DUE.is("fewest without", x.fewest(false), 0);
        DUE.is("fewest without", x.fewest(true), 0);
        DUE.is("4 to 2", x.party(4, 2), -2);
        DUE.is("to 9", x.party(4, 9), -2);
        DUE.is("from -2", x.party(-2, 3), -2);
        DUE.is("LOW", x.party(LOW, HIGH), -2);
        DUE.is("HIGH", x.party(HIGH, HIGH), -2);
        DUE.is("0 to 8", x.party(0, 8), 1);
        DUE.is("8 to 8", x.party(8, 8), 2);
        DUE.is("2 to 3", x.party(2, 3), 3);
        DUE.is("3 to 5", x.party(3, 5), 4);
        DUE.is("lives(0)", x.lives(0), 1);
        DUE.is("lives(3)", x.lives(3), 3);
        DUE.is("lives(4)", x.lives(4), 2);
        DUE.is("lives(8)", x.lives(8), 2);
        DUE.is("lives(9)", x.lives(9), NONE);
        for (int wrong : WRONG) {
            DUE.is("lives", x.lives(wrong), NONE);
        }
        DUE.is("most", x.most(), 3);
        DUE.is("3 and 8", x.fewest(false), 264);
        DUE.is("two", x.fewest(true), 2);
        for (int i = 5; i <= 8; i++) {
            DUE.is("0 to 0", x.party(0, 0), i);
        }
        DUE.is("a ninth", x.party(0, 0), -2);
        DUE.is("most", x.most(), 0);
        DUE.is("0, 3 and 8", x.fewest(false), 265);
        DUE.is("none any more", x.party(NONE, 7), 0);
        DUE.is("1 to 2", x.party(1, 2), 1);
        DUE.is("2 to 3", x.party(5, 7), 2);
        DUE.is("the lowest set", x.fewest(false), 34);
    }

    // promises 50, 51
    private static void decimals() {
        TruePoll x = new TruePoll();
        String seventh = "142857142857";
        for (int i = 0; i < 12; i++) {
            DUE.is("1/7 at " + i, x.decimal(1, 7, i), seventh.charAt(i) - '0');
        }
        DUE.is("1/7 at 999", x.decimal(1, 7, 999), seventh.charAt(999 % 6) - '0');
        DUE.is("98/99", x.decimal(98, 99, 0), 9);
        DUE.is("98/99", x.decimal(98, 99, 1), 8);
        DUE.is("0/1", x.decimal(0, 1, 0), 0);
        DUE.is("1/97 ahead", x.decimals(1, 97, false), 0);
        DUE.is("1/97 ring", x.decimals(1, 97, true), 96);
        DUE.is("1/96 ahead", x.decimals(1, 96, false), 5);
        DUE.is("1/96 ring", x.decimals(1, 96, true), 1);
        DUE.is("1/64 ahead", x.decimals(1, 64, false), 6);
        DUE.is("1/64 ring", x.decimals(1, 64, true), 1);
        DUE.is("2/8 ahead", x.decimals(2, 8, false), 2);
        DUE.is("0/99", x.decimals(0, 99, false), 0);
        DUE.is("0/99", x.decimals(0, 99, true), 1);
        DUE.is("7/12 ahead", x.decimals(7, 12, false), 2);
        DUE.is("7/12 ring", x.decimals(7, 12, true), 1);
        int[][] wrong = {{7, 7}, {8, 7}, {-1, 7}, {0, 0}, {1, 100}, {99, 100}, {0, -1}, {LOW, LOW}, {HIGH, HIGH}, {LOW, HIGH}};
        for (int[] w : wrong) {
            DUE.is("decimal", x.decimal(w[0], w[1], 0), NONE);
            DUE.is("decimals", x.decimals(w[0], w[1], false), NONE);
            DUE.is("decimals", x.decimals(w[0], w[1], true), NONE);
        }
        DUE.is("i -1", x.decimal(1, 7, -1), NONE);
        DUE.is("i 1000", x.decimal(1, 7, 1000), NONE);
        DUE.is("i HIGH", x.decimal(1, 7, HIGH), NONE);
    }

    // promises 52, 53, 54
    private static void villages() {
        TruePoll x = new TruePoll();
        DUE.is("at first 0", x.window(0, 10), 0);
        DUE.is("busiest at first", x.busiest(3), 0);
        DUE.yes("0", x.village(0, 5));
        DUE.yes("9", x.village(9, 99));
        DUE.yes("9 anew", x.village(9, 7));
        DUE.yes("4", x.village(4, 9));
        DUE.no("10", x.village(10, 0));
        DUE.no("100", x.village(0, 100));
        DUE.is("around", x.window(9, 2), 12);
        DUE.is("one", x.window(9, 1), 7);
        DUE.is("none", x.window(9, 0), 0);
        DUE.is("all", x.window(5, 10), 21);
        DUE.is("from 10", x.window(10, 1), NONE);
        DUE.is("11", x.window(0, 11), NONE);
        DUE.is("-1", x.window(0, -1), NONE);
        DUE.is("one: 4", x.busiest(1), 4);
        DUE.is("two: 9", x.busiest(2), 9);
        DUE.is("six: 9 and on", x.busiest(6), 9);
        DUE.is("five: 0 and on", x.busiest(5), 0);
        DUE.is("none: 0", x.busiest(0), 0);
        DUE.is("all: 0", x.busiest(10), 0);
        DUE.is("11", x.busiest(11), NONE);
        for (int wrong : WRONG) {
            DUE.no("village", x.village(wrong, 0));
            DUE.no("village", x.village(0, wrong));
            DUE.is("window", x.window(wrong, 1), NONE);
            DUE.is("window", x.window(1, wrong), NONE);
            DUE.is("busiest", x.busiest(wrong), NONE);
        }
        DUE.is("as it was", x.window(0, 1), 5);
    }

    // promises 55, 56
    private static void saidAndWhose() {
        TruePoll x = four();
        DUE.is("without TEXTS", x.whose(), 0);
        Feeder.read(x, "says 1;");
        Feeder.read(x, "says figure - 1;");
        Feeder.read(x, "day 1;");
        DUE.is("without SAID all", x.whose(), 7);
        DUE.is("said", x.said(2, 4), 1);
        DUE.is("two", x.whose(), 3);
        DUE.is("said", x.said(1, 0), 2);
        DUE.is("one", x.whose(), 2);
        DUE.is("none any more", x.said(NONE, 9), 0);
        DUE.is("all", x.whose(), 7);
        DUE.is("told more than there are", x.said(8, 2), 1);
        DUE.is("by SORT 2 of 8: not near 3", x.whose(), 4);
        DUE.is("figure 9", x.said(9, 0), -2);
        DUE.is("figure -2", x.said(-2, 0), -2);
        DUE.is("count 9", x.said(0, 9), -2);
        DUE.is("count -1", x.said(0, -1), -2);
        DUE.is("LOW", x.said(LOW, LOW), -2);
        DUE.is("HIGH", x.said(HIGH, HIGH), -2);
        for (int i = 2; i <= 8; i++) {
            DUE.is("said " + i, x.said(8, 8), i);
        }
        DUE.is("a ninth", x.said(0, 0), -2);
        DUE.is("eight", x.about(4), 8);
        DUE.is("nobody's", x.whose(), 0);
        DUE.is("as now", x.about(2), NONE);
    }

    // promise 57
    private static void honest() {
        TruePoll x = four();
        DUE.is("steady alone", x.honest(), 1);
        x.nudge(0, -6);
        DUE.is("by no", x.honest(), 1);
        TruePoll y = ruled(8, "says if figure > 7 then 3 - who else 5 - who end;");
        DUE.is("3 and 4 are not", y.honest(), 231);
        DUE.is("nobody", new TruePoll().honest(), 0);
    }

    // promises 58, 59
    private static void changesAndLedger() {
        TruePoll x = four();
        DUE.is("none", x.changes(), 0);
        DUE.is("none", x.ledger(0), 0);
        // told 0 comes 2; told 2 comes 3, and 1 draws the other one; told 1 comes 3
        x.day(1);
        x.day(1);
        x.tell(1);
        DUE.is("first 2", x.book(0, 2), 2);
        DUE.is("told 2: 2", x.book(1, 2), 2);
        DUE.is("told 1: 3", x.book(2, 2), 3);
        DUE.is("the first and the third", x.changes(), 2);
        DUE.is("2 twice", x.ledger(2), 2);
        DUE.is("3 once", x.ledger(3), 1);
        DUE.is("1 was told alone", x.ledger(1), 0);
        DUE.is("8 never", x.ledger(8), 0);
        DUE.is("9", x.ledger(9), -2);
        for (int wrong : WRONG) {
            DUE.is("ledger", x.ledger(wrong), -2);
        }
        TruePoll y = new TruePoll();
        y.day(60);
        DUE.is("the latest 30", y.ledger(0), 30);
        DUE.is("none otherwise", y.changes(), 0);
    }

    // promises 60, 61
    private static void imageAndBack() {
        TruePoll x = four();
        x.hear(0, 1);
        Feeder.read(x, "says own - 4;");
        x.by(0);
        x.tell(2);
        x.party(1, 2);
        x.said(3, 3);
        x.village(2, 22);
        DUE.is("image", x.image(), 1);
        int answers = x.is(3);
        Feeder.read(x, "foo");
        x.feed(1, 2, 3, 4, 5);
        x.day(3);
        x.person(1, 1);
        x.hear(0, 1);
        x.nudge(1, 2);
        Feeder.read(x, "says 1;");
        x.by(1);
        x.party(1, 2);
        x.said(3, 3);
        x.village(2, 23);
        Feeder.read(x, "bar");
        x.feed(1, 2, 3, 4, 5);
        DUE.is("back", x.back(), 1);
        DUE.is("people", x.about(0), 4);
        DUE.is("texts", x.about(1), 1);
        DUE.is("the text", x.about(2), 0);
        DUE.is("STEPS", x.about(3), 1);
        DUE.is("said", x.about(4), 1);
        DUE.is("the tape stays", x.about(5), 20);
        DUE.is("the FAULT stays", x.fault(0), 1);
        DUE.is("hears", x.of(0, 2), 2);
        DUE.is("leans", x.is(4), 9);
        DUE.is("answers", x.is(3), answers);
        DUE.is("book", x.book(NONE, 0), 1);
        DUE.is("parties", x.lives(1), 1);
        DUE.is("village", x.window(2, 1), 22);
        DUE.is("undo", x.undo(), 0);
        DUE.is("round 0", x.is(0), 0);
        DUE.is("it stays", x.back(), 1);
        DUE.is("STEPS again", x.about(3), 1);
        DUE.is("a text anew", Feeder.read(x, "says 0;"), 1);
        x.by(1);
        DUE.is("it rules", x.comes(0), 0);
        x.back();
        DUE.is("the first rules", x.comes(0), 1);
        x.undo();
        DUE.is("image of 0", x.image(), 0);
        x.day(2);
        DUE.is("back to 0", x.back(), 0);
    }

    /** What was cleared and told otherwise since is again as it was. */
    private static void imageOfWhatIsTold() {
        TruePoll x = ruled(3, "says 1;");
        x.said(1, 3);
        x.party(2, 4);
        x.image();
        DUE.is("its law", x.whose(), 1);
        x.said(NONE, 0);
        x.said(2, 0);
        x.party(NONE, 0);
        x.party(7, 8);
        DUE.is("not its law", x.whose(), 0);
        DUE.is("another PARTY", x.most(), 7);
        x.said(NONE, 0);
        x.said(1, 2);
        x.back();
        DUE.is("its law again", x.whose(), 1);
        DUE.is("the PARTY from 2", x.most(), 2);
        DUE.is("the PARTY to 4", x.lives(4), 1);
        DUE.is("not to 5", x.lives(5), 0);
        x.said(NONE, 0);
        x.said(4, 3);
        x.nudge(2, 1);
        x.back();
        DUE.is("its law yet", x.whose(), 1);
    }

    // promise 62
    private static void about() {
        TruePoll x = new TruePoll();
        for (int what = 0; what <= 5; what++) {
            DUE.is("about(" + what + ")", x.about(what), what == 2 ? NONE : 0);
        }
        DUE.is("6", x.about(6), -2);
        for (int wrong : WRONG) {
            DUE.is("about", x.about(wrong), -2);
        }
    }
}
