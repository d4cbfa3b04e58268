import java.util.List;
import java.util.Map;
import java.util.TreeMap;
import java.util.function.Consumer;

/** What each call may change: all else stays, in a poll of which all is other than at first and than in its image. */
final class BoundsOfChanges {
    private static final String A_ROUND = "leans answers figure round x steps book";
    private static final String ALL_IN_AN_IMAGE = A_ROUND + " people sorts ears texts ruling parties said villages";

    private BoundsOfChanges() {
    }

    private static TruePoll full() {
        TruePoll x = new TruePoll();
        x.person(6, 0);
        x.person(1, 1);
        x.hear(0, 1);
        Polls.ruled(x, "says own - 3; sways 2 - figure;");
        x.day(2);
        x.party(0, 3);
        x.said(2, 1);
        x.village(0, 7);
        x.image();
        x.person(3, 2);
        x.person(8, 3);
        x.hear(1, 0);
        x.hear(3, 2);
        Polls.ruled(x, "says own - figure + who - 1; sways yes * 3 - 1; up 1; tell 2; day 2;");
        x.party(2, 5);
        x.said(1, 4);
        x.village(6, 60);
        x.years(77, 3);
        x.tell(3);
        // one of the two can be, whatever the LEAN is
        if (!x.nudge(1, 2)) {
            x.nudge(1, -2);
        }
        x.day(4);
        x.undo();
        Feeder.read(x, "up 1; up 8;");
        Feeder.onTape(x, "down 2; day 1;");
        return x;
    }

    private static String row(TruePoll x, int people, int what) {
        StringBuilder row = new StringBuilder();
        for (int p = 0; p < people; p++) {
            row.append(' ').append(x.of(p, what));
        }
        return row.toString();
    }

    /** All that is kept, by its name, by 150 calls at most: three times are fewer than the 512 of an object. */
    private static Map<String, String> parts(TruePoll x) {
        Map<String, String> parts = new TreeMap<>();
        int people = x.about(0);
        int lines = x.book(Polls.NONE, 0);
        parts.put("tape", "" + x.about(5));
        parts.put("fault", x.fault(0) + " at " + x.fault(1));
        parts.put("people", "" + people);
        parts.put("leans", row(x, people, 0));
        parts.put("sorts", row(x, people, 1));
        parts.put("ears", row(x, people, 2));
        parts.put("answers", row(x, people, 3) + " " + x.is(3));
        parts.put("figure", "" + x.is(2));
        parts.put("round", "" + x.is(0));
        parts.put("x", "" + x.is(1));
        parts.put("steps", "" + x.about(3));
        parts.put("texts", "" + x.about(1));
        parts.put("ruling", "" + x.about(2));
        parts.put("said", x.about(4) + " by " + x.whose());
        StringBuilder book = new StringBuilder();
        for (int i = 0; i < lines; i++) {
            book.append(' ').append(x.book(i, 0)).append(' ').append(x.book(i, 1)).append(' ').append(x.book(i, 2));
        }
        parts.put("book", book.toString());
        StringBuilder lives = new StringBuilder();
        for (int f = 0; f <= 8; f++) {
            lives.append(' ').append(x.lives(f));
        }
        parts.put("parties", lives.toString());
        StringBuilder villages = new StringBuilder();
        for (int v = 0; v <= 9; v++) {
            villages.append(' ').append(x.window(v, 1));
        }
        parts.put("villages", villages.toString());
        return parts;
    }

    @Sentence(promise = 62, says = "0 PEOPLE, 1 TEXTS, 2 THE TEXT (NONE), 3 STEPS that can be taken back, 4 SAID, 5 bytes of the tape.")
    static void whatWasToldIsThere(Due d) {
        Map<String, String> due = new TreeMap<>();
        due.put("tape", "14");
        due.put("fault", "2 at 9");
        due.put("people", "4");
        due.put("sorts", " 0 1 2 3");
        due.put("ears", " 2 1 0 4");
        due.put("texts", "2");
        due.put("ruling", "1");
        due.put("steps", "8");
        due.put("parties", " 1 1 2 2 1 1 0 0 0");
        due.put("villages", " 7 0 0 0 0 0 60 0 0 0");
        TruePoll x = full();
        Map<String, String> parts = parts(x);
        for (String part : due.keySet()) {
            d.same(part, parts.get(part), due.get(part));
        }
        d.is("ROUNDS in BOOK", x.book(Polls.NONE, 0), x.is(0));
        d.is("SAID", x.about(4), 2);
        d.is("THE IMAGE is of the 2nd ROUND", x.back(), 2);
        due.put("people", "2");
        due.put("sorts", " 0 1");
        due.put("ears", " 2 0");
        due.put("texts", "1");
        due.put("ruling", "0");
        due.put("steps", "2");
        due.put("parties", " 1 1 1 1 0 0 0 0 0");
        due.put("villages", " 7 0 0 0 0 0 0 0 0 0");
        parts = parts(x);
        for (String part : due.keySet()) {
            d.same(part + " in the image", parts.get(part), due.get(part));
        }
    }

    /** Whether a call leaves all as it is but what may change, and the image, if that isn't named, too. */
    private static void may(Due d, String changes, String call, Consumer<TruePoll> asked) {
        List<String> free = List.of(changes.split(" "));
        TruePoll x = full();
        Map<String, String> ahead = parts(x);
        asked.accept(x);
        Map<String, String> behind = parts(x);
        for (String part : ahead.keySet()) {
            if (!free.contains(part)) {
                d.same(part + " behind " + call, behind.get(part), ahead.get(part));
            }
        }
        if (!free.contains("image")) {
            TruePoll twin = full();
            d.is("back() behind " + call, x.back(), twin.back());
            Map<String, String> image = parts(x);
            Map<String, String> due = parts(twin);
            for (String part : due.keySet()) {
                boolean kept = !part.equals("tape") && !part.equals("fault");
                d.same(part + " in the image behind " + call, kept ? image.get(part) : "", kept ? due.get(part) : "");
            }
        }
    }

    private static void nothing(Due d, String call, Consumer<TruePoll> asked) {
        may(d, "nothing", call, asked);
    }

    // ---- what is told and done

    @Sentence(promise = 2, says = "A PERSON: its number.")
    static void aPersonAlone(Due d) {
        may(d, "people leans sorts ears answers said", "person(3, 1)", x -> x.person(3, 1));
        nothing(d, "person(10, 1)", x -> x.person(10, 1));
        nothing(d, "person(1, 4)", x -> x.person(1, 4));
    }

    @Sentence(promise = 3, says = "Whether a PERSON hears another one, is other: true.")
    static void anEarAlone(Due d) {
        may(d, "ears said", "hear(2, 0)", x -> x.hear(2, 0));
        may(d, "ears said", "hear(0, 1)", x -> x.hear(0, 1));
        nothing(d, "hear(0, 0)", x -> x.hear(0, 0));
        nothing(d, "hear(0, 4)", x -> x.hear(0, 4));
    }

    @Sentence(promise = 4, says = "Twenty bytes come behind the tape, the highest of a first: how many it has.")
    static void theTapeAlone(Due d) {
        may(d, "tape", "feed", x -> x.feed(1, 2, 3, 4, 5));
        nothing(d, "a feed beyond 300", x -> {
            x.end(0);
            while (x.about(5) < 300) {
                x.feed(0, 0, 0, 0, 0);
            }
            x.end(281);
            x.feed(1, 2, 3, 4, 5);
            d.is("bytes", x.about(5), 281);
            x.end(14);
        });
    }

    @Sentence(promise = 5, says = "NONE, and nothing is done, if it has not so many, or n is below 0.")
    static void theEndAlone(Due d) {
        may(d, "tape", "end(3)", x -> x.end(3));
        nothing(d, "end(15)", x -> x.end(15));
        nothing(d, "end(-1)", x -> x.end(-1));
    }

    @Sentence(promise = 6, says = "The tape (empty then) is a TEXT: its number.")
    static void aTextAlone(Due d) {
        may(d, "tape fault texts said", "text()", TruePoll::text);
        may(d, "tape fault", "text() with a FAULT", x -> {
            x.end(3);
            d.is("text()", x.text(), Polls.NONE);
        });
    }

    @Sentence(promise = 8, says = "THE TEXT (NONE: none): true.")
    static void theRuleAlone(Due d) {
        may(d, "ruling", "by(0)", x -> x.by(0));
        may(d, "ruling", "by(NONE)", x -> x.by(Polls.NONE));
        nothing(d, "by(2)", x -> x.by(2));
    }

    @Sentence(promise = 9, says = "TOLD: the FIGURE then.")
    static void aRoundAlone(Due d) {
        may(d, A_ROUND + " said", "tell(2)", x -> x.tell(2));
        nothing(d, "tell(5)", x -> x.tell(5));
    }

    @Sentence(promise = 10, says = "NUDGED: true.")
    static void aLeanAlone(Due d) {
        may(d, "leans steps said", "nudge(0, 1)", x -> d.yes("nudge(0, 1)", x.nudge(0, 1) || x.nudge(0, -1)));
        nothing(d, "nudge(0, 0)", x -> x.nudge(0, 0));
        nothing(d, "nudge(4, 1)", x -> x.nudge(4, 1));
    }

    @Sentence(promise = 11, says = "ROUNDS pass (1 .. 60), each told the FIGURE as it is: the FIGURE.")
    static void roundsAlone(Due d) {
        may(d, A_ROUND + " said", "day(5)", x -> x.day(5));
        nothing(d, "day(0)", x -> x.day(0));
        nothing(d, "day(61)", x -> x.day(61));
    }

    @Sentence(promise = 12, says = "PLAYED by a TEXT: its CLAUSES but laws, in their order, as by hand;")
    static void whatIsPlayedAlone(Due d) {
        may(d, A_ROUND + " said", "played(1)", x -> x.played(1));
        nothing(d, "played(0), which has laws alone", x -> x.played(0));
        nothing(d, "played(2)", x -> x.played(2));
    }

    @Sentence(promise = 13, says = "YEARS: ROUND.")
    static void yearsAlone(Due d) {
        may(d, A_ROUND + " said", "years(5, 20)", x -> x.years(5, 20));
        nothing(d, "years(5, 41)", x -> x.years(5, 41));
        nothing(d, "years(10000, 1)", x -> x.years(10000, 1));
    }

    @Sentence(promise = 14, says = "(LEANS, ANSWERS, FIGURE, ROUND, X, BOOK are as ahead of it;")
    static void aStepAlone(Due d) {
        may(d, A_ROUND + " said", "undo()", TruePoll::undo);
        may(d, A_ROUND + " said", "all undo()", x -> {
            while (x.about(3) > 0) {
                x.undo();
            }
            d.is("undo() of none", x.undo(), Polls.NONE);
        });
    }

    @Sentence(promise = 46, says = "A PARTY: how many there are (low NONE: none any more).")
    static void partiesAlone(Due d) {
        may(d, "parties", "party(1, 1)", x -> x.party(1, 1));
        may(d, "parties", "party(NONE, 0)", x -> x.party(Polls.NONE, 0));
        nothing(d, "party(2, 1)", x -> x.party(2, 1));
    }

    @Sentence(promise = 52, says = "A VILLAGE told: true.")
    static void villagesAlone(Due d) {
        may(d, "villages", "village(3, 9)", x -> x.village(3, 9));
        nothing(d, "village(10, 9)", x -> x.village(10, 9));
    }

    @Sentence(promise = 55, says = "SAID: how many there are (figure NONE: none any more).")
    static void whatIsSaidAlone(Due d) {
        may(d, "said", "said(1, 1)", x -> x.said(1, 1));
        may(d, "said", "said(NONE, 0)", x -> x.said(Polls.NONE, 0));
        nothing(d, "said(9, 1)", x -> x.said(9, 1));
    }

    @Sentence(promise = 60, says = "AN IMAGE: all as it is, but the tape and the latest FAULT.")
    static void theImageAlone(Due d) {
        may(d, "image", "image()", TruePoll::image);
    }

    @Sentence(promise = 61, says = "BACK to THE IMAGE (it stays): ROUND.")
    static void allButTheTapeAndTheFault(Due d) {
        may(d, ALL_IN_AN_IMAGE, "back()", TruePoll::back);
    }

    // ---- what is asked

    @Sentence(promise = 1, says = "FIGURE 0 .. 8: how many said yes (at first 0).")
    static void askingWhatIsSoChangesNothing(Due d) {
        nothing(d, "fault", x -> x.fault(0));
        nothing(d, "of", x -> x.of(1, 0));
        nothing(d, "of, sways told yes", x -> x.of(1, 4));
        nothing(d, "of, sways told no", x -> x.of(1, 5));
        nothing(d, "says", x -> x.says(2, 8));
        nothing(d, "is", x -> x.is(1));
        nothing(d, "book", x -> x.book(1, 1));
        nothing(d, "about", x -> x.about(5));
    }

    @Sentence(promise = 19, says = "All that follows changes nothing but what is told.")
    static void askingWhatComesChangesNothing(Due d) {
        nothing(d, "foretold", x -> x.foretold(60, 1));
        nothing(d, "comes", x -> x.comes(2));
        nothing(d, "trues", TruePoll::trues);
        nothing(d, "firm", TruePoll::firm);
        nothing(d, "ends", x -> x.ends(1, true));
        nothing(d, "till", x -> x.till(1));
        nothing(d, "leads", x -> x.leads(1));
        nothing(d, "rings", TruePoll::rings);
        nothing(d, "nearest", TruePoll::nearest);
        nothing(d, "path", x -> x.path(0, 3, 2));
        nothing(d, "win", x -> x.win(4, true));
        nothing(d, "two", x -> x.two(1, 3, 2));
        nothing(d, "split", x -> x.split(1, 3));
        nothing(d, "mind", x -> x.mind(0, 4));
        nothing(d, "unasked", x -> x.unasked(true));
        nothing(d, "alike", x -> x.alike(0, 3));
        nothing(d, "pair", x -> x.pair(true));
        nothing(d, "move", x -> x.move(1, 2));
        nothing(d, "cheapest", x -> x.cheapest(0));
        nothing(d, "sure", x -> x.sure(2, 3, false));
        nothing(d, "mean", x -> x.mean(3, false));
    }

    @Sentence(promise = 40, says = "All that follows changes nothing but what is told.")
    static void askingTheRestChangesNothing(Due d) {
        nothing(d, "reach", x -> x.reach(0));
        nothing(d, "circles", TruePoll::circles);
        nothing(d, "loud", TruePoll::loud);
        nothing(d, "part", TruePoll::part);
        nothing(d, "game", x -> x.game(8));
        nothing(d, "choice", x -> x.choice(7));
        nothing(d, "lives", x -> x.lives(3));
        nothing(d, "most", TruePoll::most);
        nothing(d, "fewest", x -> x.fewest(false));
        nothing(d, "decimal", x -> x.decimal(5, 98, 999));
        nothing(d, "decimals", x -> x.decimals(5, 98, true));
        nothing(d, "window", x -> x.window(8, 5));
        nothing(d, "busiest", x -> x.busiest(5));
        nothing(d, "whose", TruePoll::whose);
        nothing(d, "honest", TruePoll::honest);
        nothing(d, "changes", TruePoll::changes);
        nothing(d, "ledger", x -> x.ledger(2));
    }
}
