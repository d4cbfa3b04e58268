/** Promises 20 to 37: what comes of figures, whom to win and to move, who says what. */
final class BoundsOfFigures {
    private static final int NONE = Polls.NONE;

    private BoundsOfFigures() {
    }

    /** Of 0 .. 5 come 1 2 4 2 2 3: all end in the ring of 2 and 4. */
    private static TruePoll six() {
        return Polls.coming(1, 2, 4, 2, 2, 3);
    }

    /** Each figure comes of itself. */
    private static TruePoll alwaysTrue() {
        return Polls.ruled(8, "says figure - who;");
    }

    // ---- promise 20

    @Sentence(promise = 20, says = "In what follows nobody draws and nobody sways: WHAT COMES of a figure (0 to how "
        + "many PEOPLE there are): how many say yes, told it, all being as now.")
    static void nobodyDrawsAndAllIsAsNow(Due d) {
        TruePoll x = Polls.ruled(8, "says own - 4 - round; sways 2;");
        for (int f = 0; f <= 8; f++) {
            // 5 would draw 0
            d.is("comes(" + f + ")", x.comes(f), 8);
        }
        d.is("X", x.is(1), 449);
        d.is("LEANS", x.is(4), 40);
        x.nudge(3, -1);
        d.is("comes(0) behind a nudge", x.comes(0), 7);
        Polls.at(9, x);
        d.is("LEANS behind nine ROUNDS", x.is(4), 72);
        d.is("comes(0) in ROUND 9", x.comes(0), 0);
    }

    @Sentence(promise = 20, says = "WHAT COMES of a figure.")
    static void eachFigureHasItsOwn(Due d) {
        int[] due = {8, 0, 7, 1, 4, 4, 3, 6, 5};
        TruePoll x = Polls.coming(due);
        for (int f = 0; f <= 8; f++) {
            d.is("comes(" + f + ")", x.comes(f), due[f]);
        }
        d.is("comes(0) of nobody", new TruePoll().comes(0), 0);
    }

    @Sentence(promise = 20, says = "NONE for others.")
    static void otherFiguresHaveNone(Due d) {
        for (int people : new int[] {0, 1, 4, 8}) {
            TruePoll x = Polls.ruled(people, "says 1;");
            Polls.beyond(d, "comes of " + people, 0, people, NONE, x::comes);
            d.is("comes(0)", x.comes(0), people);
            d.is("comes(" + people + ")", x.comes(people), people);
        }
    }

    @Sentence(promise = 20, says = "(Figures are all 0 to how many PEOPLE there are;")
    static void oneMoreThanPeopleIsNoFigure(Due d) {
        TruePoll x = Polls.people(3, 5, 0);
        x.nudge(0, 1);
        String ahead = Polls.seen(x);
        long[] none = {x.comes(4), x.ends(4, false), x.ends(4, true), x.till(4), x.leads(4), x.path(4, 0, 8), x.path(0, 4, 8),
            x.path(4, 4, 0), x.win(4, false), x.win(4, true), x.two(4, 0, 0), x.two(0, 4, 1), x.two(0, 4, 2), x.split(4, 0),
            x.split(0, 4), x.mind(4, 0), x.mind(0, 4), x.move(0, 4), x.cheapest(4), x.tell(4)};
        for (int i = 0; i < none.length; i++) {
            d.is("call " + i + " with 4 of 3", none[i], NONE);
        }
        d.same("nothing is done", Polls.seen(x), ahead);
        long[] some = {x.comes(3), x.ends(3, false), x.ends(3, true), x.till(3), x.leads(3), x.path(3, 3, 0), x.path(0, 3, 0),
            x.win(3, false), x.win(3, true), x.two(3, 0, 0), x.two(0, 3, 1), x.two(0, 3, 2), x.split(3, 0),
            x.split(0, 3), x.mind(3, 0), x.mind(0, 3), x.move(0, 3), x.cheapest(3)};
        long[] due = {3, 3, 1, 0, 15, 0, 1, 0, 0, 3, 3, 1, 7, 0, 0, 0, 4, 0};
        for (int i = 0; i < some.length; i++) {
            d.is("call " + i + " with 3 of 3", some[i], due[i]);
        }
    }

    // ---- promise 21

    @Sentence(promise = 21, says = "TRUE: figures that come of themselves.")
    static void noneToAllAreTrue(Due d) {
        d.is("all", alwaysTrue().trues(), 511);
        d.is("none", Polls.coming(1, 2, 3, 4, 5, 6, 7, 8, 0).trues(), 0);
        d.is("the first and the last", Polls.coming(0, 0, 1, 2, 3, 4, 5, 6, 8).trues(), 257);
        d.is("none of one", Polls.coming(1, 0).trues(), 0);
        d.is("both of one", Polls.coming(0, 1).trues(), 3);
    }

    @Sentence(promise = 21, says = "TRUE figures (bits).")
    static void zeroOfNobodyIsTrue(Due d) {
        d.is("of nobody", new TruePoll().trues(), 1);
        d.is("the last of eight alone", Polls.ruled(8, "says 1;").trues(), 256);
        // by figure 2 two would say yes, but there are none
        d.is("of one", Polls.ruled(1, "says figure - 1;").trues(), 1);
    }

    // ---- promise 22

    @Sentence(promise = 22, says = "FIRM: TRUE ones that also come of each figure one more or one less (if there is "
        + "such).")
    static void firmOnesComeOfBothBeside(Due d) {
        d.is("of both", Polls.coming(1, 1, 1).firm(), 2);
        d.is("not of one more", Polls.coming(1, 1, 0).firm(), 0);
        d.is("not of one less", Polls.coming(0, 1, 1).firm(), 0);
        d.is("of both, but not of itself", Polls.coming(1, 0, 1).firm(), 0);
        d.is("one of two TRUE ones", Polls.coming(1, 1, 1, 3, 3).firm(), 2);
        d.is("all are TRUE, none is FIRM", alwaysTrue().firm(), 0);
    }

    @Sentence(promise = 22, says = "FIRM at its ends goes by the one beside it alone.")
    static void firmAtItsEnds(Due d) {
        d.is("0 of 1, too", Polls.coming(0, 0, 2).firm(), 1);
        d.is("0 not of 1", Polls.coming(0, 2, 1).firm(), 0);
        d.is("2 of 1, too", Polls.coming(1, 2, 2).firm(), 4);
        d.is("2 not of 1", Polls.coming(1, 0, 2).firm(), 0);
        d.is("both", Polls.coming(0, 0, 3, 3).firm(), 9);
        d.is("8 of 7, too", Polls.ruled(8, "says 1;").firm(), 256);
        d.is("0 of 1, too", Polls.ruled(8, "says 0;").firm(), 1);
    }

    @Sentence(promise = 22, says = "FIRM figures (bits).")
    static void zeroOfNobodyIsFirm(Due d) {
        d.is("of nobody", new TruePoll().firm(), 1);
        d.is("of one", Polls.coming(0, 0).firm(), 1);
        d.is("of one", Polls.coming(1, 1).firm(), 2);
    }

    // ---- promises 23, 24

    @Sentence(promise = 23, says = "WHERE IT ENDS: a figure, what comes of it, and so on, till one comes again: the "
        + "ring from there on: its lowest figure, its size;")
    static void ringsOfOneToNine(Due d) {
        for (int size = 1; size <= 9; size++) {
            int[] numbers = new int[9];
            for (int f = 0; f <= 8; f++) {
                // what is above the ring comes down to it one by one
                numbers[f] = f < size ? (f + 1) % size : f - 1;
            }
            TruePoll x = Polls.coming(numbers);
            for (int f = 0; f <= 8; f++) {
                d.is("ends(" + f + ", true) in a ring of " + size, x.ends(f, true), size);
                d.is("ends(" + f + ", false) in a ring of " + size, x.ends(f, false), 0);
                d.is("till(" + f + ") of a ring of " + size, x.till(f), Math.max(0, f - size + 1));
            }
        }
    }

    @Sentence(promise = 23, says = "WHERE IT ENDS: the lowest figure of its ring (size false), its size (size true).")
    static void theLowestIsOfTheRingAlone(Due d) {
        TruePoll x = six();
        for (int f = 0; f <= 5; f++) {
            d.is("ends(" + f + ", false)", x.ends(f, false), 2);
            d.is("ends(" + f + ", true)", x.ends(f, true), 2);
        }
        TruePoll y = Polls.coming(1, 0, 4, 4, 2, 5);
        int[] lowest = {0, 0, 2, 2, 2, 5};
        int[] size = {2, 2, 2, 2, 2, 1};
        for (int f = 0; f <= 5; f++) {
            d.is("ends(" + f + ", false)", y.ends(f, false), lowest[f]);
            d.is("ends(" + f + ", true)", y.ends(f, true), size[f]);
        }
        d.is("ends(0, false) of nobody", new TruePoll().ends(0, false), 0);
        d.is("ends(0, true) of nobody", new TruePoll().ends(0, true), 1);
    }

    @Sentence(promise = 23, says = "NONE for others.")
    static void otherFiguresEndNowhere(Due d) {
        for (int people : new int[] {0, 1, 5, 8}) {
            TruePoll x = Polls.ruled(people, "says 0;");
            Polls.beyond(d, "ends(.., false) of " + people, 0, people, NONE, f -> x.ends(f, false));
            Polls.beyond(d, "ends(.., true) of " + people, 0, people, NONE, f -> x.ends(f, true));
            d.is("ends(" + people + ", true)", x.ends(people, true), 1);
        }
    }

    @Sentence(promise = 24, says = "TILL: behind how many one of the ring is come to first (0 in it).")
    static void tillIs0InTheRing(Due d) {
        TruePoll x = six();
        int[] till = {2, 1, 0, 1, 0, 2};
        for (int f = 0; f <= 5; f++) {
            d.is("till(" + f + ")", x.till(f), till[f]);
        }
        TruePoll y = Polls.coming(0, 0, 1, 2, 3, 4, 5, 6, 7);
        for (int f = 0; f <= 8; f++) {
            d.is("till(" + f + ")", y.till(f), f);
        }
        TruePoll ring = Polls.coming(8, 0, 1, 2, 3, 4, 5, 6, 7);
        for (int f = 0; f <= 8; f++) {
            d.is("till(" + f + ") in the ring of all", ring.till(f), 0);
        }
    }

    @Sentence(promise = 24, says = "TILL: behind how many.")
    static void tillOfNobodyIs0(Due d) {
        d.is("till(0) of nobody", new TruePoll().till(0), 0);
        d.is("till(1) of one", Polls.coming(0, 0).till(1), 1);
        d.is("till(0) of one", Polls.coming(1, 1).till(0), 1);
    }

    @Sentence(promise = 24, says = "NONE for others.")
    static void tillOfOtherFiguresIsNone(Due d) {
        for (int people : new int[] {0, 1, 5, 8}) {
            TruePoll x = Polls.ruled(people, "says 0;");
            Polls.beyond(d, "till of " + people, 0, people, NONE, x::till);
            d.is("till(" + people + ")", x.till(people), people == 0 ? 0 : 1);
        }
    }

    // ---- promises 25, 26, 27

    @Sentence(promise = 25, says = "WHAT LEADS to a figure: all from which it is come to (itself, too).")
    static void eachFigureLeadsToItself(Due d) {
        TruePoll x = six();
        int[] due = {1, 3, 63, 8 + 32, 63, 32};
        for (int f = 0; f <= 5; f++) {
            d.is("leads(" + f + ")", x.leads(f), due[f]);
        }
        TruePoll y = Polls.coming(0, 0, 1, 2, 3, 4, 5, 6, 7);
        for (int f = 0; f <= 8; f++) {
            d.is("leads(" + f + ")", y.leads(f), 512 - (1 << f));
        }
        TruePoll up = Polls.coming(1, 2, 3, 4, 5, 6, 7, 8, 8);
        for (int f = 0; f <= 8; f++) {
            d.is("leads(" + f + ")", up.leads(f), (2 << f) - 1);
        }
    }

    @Sentence(promise = 25, says = "WHAT LEADS there: figures (bits).")
    static void figuresThatLeadAreBits(Due d) {
        d.is("leads(0) of nobody", new TruePoll().leads(0), 1);
        for (int f = 0; f <= 8; f++) {
            d.is("leads(" + f + ") where each is TRUE", alwaysTrue().leads(f), 1 << f);
            d.is("leads(" + f + ") in a ring", Polls.coming(1, 2, 3, 4, 5, 6, 7, 8, 0).leads(f), 511);
        }
    }

    @Sentence(promise = 25, says = "NONE for others.")
    static void nothingLeadsToOtherFigures(Due d) {
        for (int people : new int[] {0, 1, 5, 8}) {
            TruePoll x = Polls.ruled(people, "says 0;");
            Polls.beyond(d, "leads of " + people, 0, people, NONE, x::leads);
            d.is("leads(0)", x.leads(0), (2 << people) - 1);
        }
    }

    @Sentence(promise = 26, says = "RINGS: how many rings there are.")
    static void oneToNineRings(Due d) {
        d.is("each figure", alwaysTrue().rings(), 9);
        d.is("one of all", Polls.coming(1, 2, 3, 4, 5, 6, 7, 8, 0).rings(), 1);
        d.is("pairs and one alone", Polls.coming(1, 0, 3, 2, 5, 4, 7, 6, 8).rings(), 5);
        d.is("six", six().rings(), 1);
    }

    @Sentence(promise = 26, says = "RINGS: how many.")
    static void nobodyHasOneRing(Due d) {
        d.is("of nobody", new TruePoll().rings(), 1);
        d.is("one of one", Polls.coming(1, 0).rings(), 1);
        d.is("two of one", Polls.coming(0, 1).rings(), 2);
        d.is("one of one", Polls.coming(1, 1).rings(), 1);
    }

    @Sentence(promise = 27, says = "NEAREST: the figure from which what comes of it differs least; of like ones the "
        + "lowest.")
    static void ofLikeOnesTheLowestIsNearest(Due d) {
        d.is("by 2 1 2", Polls.coming(2, 0, 0).nearest(), 1);
        d.is("by 1 1 1", Polls.coming(1, 2, 1).nearest(), 0);
        d.is("by 2 1 0", Polls.coming(2, 2, 2).nearest(), 2);
        d.is("by 2 2 1 1, the one less, the other more", Polls.coming(2, 3, 1, 2).nearest(), 2);
        d.is("by 8 7 .. 0", Polls.ruled(8, "says 1;").nearest(), 8);
        d.is("by 2 2 1 0, one less, then itself", Polls.coming(2, 3, 1, 3).nearest(), 3);
        d.is("all TRUE", alwaysTrue().nearest(), 0);
        d.is("by 8 6 4 2 0 2 ..", Polls.coming(8, 7, 6, 5, 4, 3, 2, 1, 0).nearest(), 4);
    }

    @Sentence(promise = 27, says = "NEAREST.")
    static void nearestOfNobodyIs0(Due d) {
        d.is("of nobody", new TruePoll().nearest(), 0);
        d.is("of one", Polls.coming(1, 0).nearest(), 0);
        d.is("of one", Polls.coming(1, 1).nearest(), 1);
    }

    // ---- promise 28

    @Sentence(promise = 28, says = "A PATH from a figure to another one: the fewest tellings, in each a figure being "
        + "told that differs by k at most (0: the same) from the one as it is, what comes of it being it then (0 to "
        + "itself); none.")
    static void thePathIsTheShortest(Due d) {
        TruePoll x = Polls.coming(1, 2, 3, 4, 5, 6, 7, 8, 8);
        int[] due = {8, 4, 3, 2, 2, 2, 2, 1, 1};
        for (int k = 0; k <= 8; k++) {
            d.is("path(0, 8, " + k + ")", x.path(0, 8, k), due[k]);
        }
        d.is("path(8, 1, 8): told 0", x.path(8, 1, 8), 1);
        d.is("path(8, 1, 7): told 1, then 0", x.path(8, 1, 7), 2);
        d.is("path(8, 7, 2): told 6", x.path(8, 7, 2), 1);
        d.is("path(8, 7, 1): 7 and 8 come to 8", x.path(8, 7, 1), NONE);
        d.is("path(8, 0, 8): nothing comes to 0", x.path(8, 0, 8), NONE);
    }

    @Sentence(promise = 28, says = "(0 to itself)")
    static void toItselfIs0(Due d) {
        TruePoll x = Polls.coming(1, 2, 3, 4, 5, 6, 7, 8, 0);
        for (int f = 0; f <= 8; f++) {
            for (int k = 0; k <= 8; k++) {
                d.is("path(" + f + ", " + f + ", " + k + ")", x.path(f, f, k), 0);
            }
        }
        d.is("path(0, 0, 0) of nobody", new TruePoll().path(0, 0, 0), 0);
    }

    @Sentence(promise = 28, says = "differs by k at most (0: the same)")
    static void by0TheSameIsTold(Due d) {
        TruePoll x = Polls.coming(1, 2, 3, 4, 5, 6, 7, 8, 0);
        for (int a = 0; a <= 8; a++) {
            for (int b = 0; b <= 8; b++) {
                d.is("path(" + a + ", " + b + ", 0)", x.path(a, b, 0), (b + 9 - a) % 9);
            }
        }
        TruePoll y = alwaysTrue();
        d.is("path(0, 1, 0) where each is TRUE", y.path(0, 1, 0), NONE);
        d.is("path(0, 8, 1)", y.path(0, 8, 1), 8);
        d.is("path(8, 0, 1)", y.path(8, 0, 1), 8);
        d.is("path(8, 0, 7)", y.path(8, 0, 7), 2);
        d.is("path(8, 0, 8)", y.path(8, 0, 8), 1);
    }

    @Sentence(promise = 28, says = "A PATH: how many.")
    static void pathsOfOnePerson(Due d) {
        TruePoll x = Polls.coming(1, 1);
        d.is("path(0, 1, 0)", x.path(0, 1, 0), 1);
        d.is("path(0, 1, 8)", x.path(0, 1, 8), 1);
        d.is("path(1, 0, 8)", x.path(1, 0, 8), NONE);
        TruePoll y = Polls.coming(1, 0);
        d.is("path(1, 0, 0)", y.path(1, 0, 0), 1);
        d.is("path(1, 0, 1)", y.path(1, 0, 1), 1);
    }

    @Sentence(promise = 28, says = "NONE: none, and for others (k 0 .. 8).")
    static void otherPathsAreNone(Due d) {
        TruePoll x = Polls.people(4, 5, 0);
        String ahead = Polls.seen(x);
        Polls.beyond(d, "path(.., 4, 8)", 0, 4, NONE, a -> x.path(a, 4, 8));
        Polls.beyond(d, "path(4, .., 8)", 0, 4, NONE, b -> x.path(4, b, 8));
        Polls.beyond(d, "path(.., .., 0)", 0, 4, NONE, both -> x.path(both, both, 0));
        Polls.beyond(d, "path(4, 4, ..)", 0, 8, NONE, k -> x.path(4, 4, k));
        Polls.beyond(d, "path(0, 4, ..)", 0, 8, NONE, k -> x.path(0, 4, k));
        d.same("nothing is done", Polls.seen(x), ahead);
        d.is("path(0, 4, 0)", x.path(0, 4, 0), 1);
        d.is("path(0, 4, 8)", x.path(0, 4, 8), 1);
    }

    // ---- promise 29

    @Sentence(promise = 29, says = "TO WIN: the fewest PEOPLE who, if they say yes whatever is told, make a figure "
        + "TRUE; of like ones the lowest set; no way.")
    static void theLowestOfTheFewest(Due d) {
        TruePoll x = Polls.ruled(8, "says if who = 1 then 1 else 0 end;");
        int[] sets = {NONE, 0, 1, 1 + 4, 1 + 4 + 8, 1 + 4 + 8 + 16, 61, 125, 253};
        for (int f = 0; f <= 8; f++) {
            d.is("win(" + f + ", false)", x.win(f, false), sets[f]);
            d.is("win(" + f + ", true)", x.win(f, true), f - 1);
        }
        TruePoll none = Polls.ruled(8, "says 0;");
        for (int f = 0; f <= 8; f++) {
            d.is("win(" + f + ", false) where nobody does", none.win(f, false), (1 << f) - 1);
            d.is("win(" + f + ", true) where nobody does", none.win(f, true), f);
        }
        TruePoll all = Polls.ruled(8, "says 1;");
        d.is("win(8, false) where all do", all.win(8, false), 0);
        d.is("win(7, false) where all do", all.win(7, false), NONE);
    }

    @Sentence(promise = 29, says = "TO WIN: PEOPLE (many false; bits), how many (many true).")
    static void whoIsWonGoesByTheFigureTold(Due d) {
        TruePoll x = Polls.coming(2, 0, 0);
        d.is("win(0, false): two say yes", x.win(0, false), NONE);
        d.is("win(0, true)", x.win(0, true), NONE);
        d.is("win(1, false): nobody does", x.win(1, false), 1);
        d.is("win(2, false): nobody does", x.win(2, false), 3);
        d.is("win(2, true)", x.win(2, true), 2);
    }

    @Sentence(promise = 29, says = "NONE: no way, and for others.")
    static void othersCannotBeWon(Due d) {
        for (int people : new int[] {0, 1, 4, 8}) {
            TruePoll x = Polls.ruled(people, "says 0;");
            Polls.beyond(d, "win(.., false) of " + people, 0, people, NONE, f -> x.win(f, false));
            Polls.beyond(d, "win(.., true) of " + people, 0, people, NONE, f -> x.win(f, true));
            d.is("win(" + people + ", false)", x.win(people, false), (1 << people) - 1);
            d.is("win(" + people + ", true)", x.win(people, true), people);
        }
    }

    // ---- promises 30, 31

    @Sentence(promise = 30, says = "TWO FIGURES: some are told the first, all others the second: by all ways to part "
        + "PEOPLE (all, nobody, too) how many say yes at fewest, at most; both are true, if as many say yes of those "
        + "told the first as the first, of the others as the second;")
    static void allAndNobodyAreWaysToPart(Due d) {
        // two who say yes by 1 and by 2, no by 0
        TruePoll x = Polls.people(2, 0, 1);
        d.is("fewest, if all are told 0", x.two(0, 1, 0), 0);
        d.is("most, if nobody is told 0", x.two(0, 1, 1), 2);
        d.is("fewest, if nobody is told 1", x.two(1, 0, 0), 0);
        d.is("most, if all are told 1", x.two(1, 0, 1), 2);
        d.is("all are told 2", x.two(2, 0, 2), 1);
        d.is("nobody is told 0", x.two(0, 2, 2), 1);
        d.is("one is told 1", x.two(1, 0, 2), 2);
        d.is("each is told 0", x.two(0, 0, 2), 4);
        d.is("one is told 1, one 1", x.two(1, 1, 2), 2);
    }

    @Sentence(promise = 30, says = "TWO FIGURES: 0 how many can say yes at fewest, 1 at most, 2 in how many ways both "
        + "are true.")
    static void noneToAllWaysAreTrue(Due d) {
        TruePoll all = Polls.ruled(8, "says 1;");
        int[] ways = {1, 8, 28, 56, 70, 56, 28, 8, 1};
        for (int f = 0; f <= 8; f++) {
            d.is("two(" + f + ", " + (8 - f) + ", 2)", all.two(f, 8 - f, 2), ways[f]);
            d.is("two(" + f + ", 8, 2)", all.two(f, 8, 2), f == 0 ? 1 : 0);
            d.is("two(" + f + ", 8, 0)", all.two(f, 8, 0), 8);
            d.is("two(" + f + ", 8, 1)", all.two(f, 8, 1), 8);
        }
        TruePoll none = Polls.ruled(8, "says 0;");
        d.is("two(0, 0, 2)", none.two(0, 0, 2), 256);
        d.is("two(0, 0, 0)", none.two(0, 0, 0), 0);
        d.is("two(0, 0, 1)", none.two(0, 0, 1), 0);
        TruePoll nobody = new TruePoll();
        d.is("two(0, 0, 0) of nobody", nobody.two(0, 0, 0), 0);
        d.is("two(0, 0, 1) of nobody", nobody.two(0, 0, 1), 0);
        d.is("two(0, 0, 2) of nobody", nobody.two(0, 0, 2), 1);
    }

    @Sentence(promise = 30, says = "NONE for others.")
    static void otherTwoFiguresAreNone(Due d) {
        TruePoll x = Polls.four();
        for (int what = 0; what <= 2; what++) {
            int asked = what;
            Polls.beyond(d, "two(.., 4, " + what + ")", 0, 4, NONE, a -> x.two(a, 4, asked));
            Polls.beyond(d, "two(4, .., " + what + ")", 0, 4, NONE, b -> x.two(4, b, asked));
        }
        Polls.beyond(d, "two(0, 4, ..)", 0, 2, NONE, what -> x.two(0, 4, what));
        d.is("two(0, 4, 0)", x.two(0, 4, 0), 1);
        d.is("two(0, 4, 1)", x.two(0, 4, 1), 4);
        d.is("two(0, 4, 2)", x.two(0, 4, 2), 0);
    }

    @Sentence(promise = 31, says = "A SPLIT: the lowest set told the first by which both are true; no way.")
    static void theLowestSetIsTold(Due d) {
        TruePoll all = Polls.ruled(8, "says 1;");
        for (int f = 0; f <= 8; f++) {
            d.is("split(" + f + ", " + (8 - f) + ")", all.split(f, 8 - f), (1 << f) - 1);
        }
        d.is("split(0, 0): no way", all.split(0, 0), NONE);
        d.is("split(8, 8): no way", all.split(8, 8), NONE);
        d.is("split(4, 3): no way", all.split(4, 3), NONE);
        // of 0 only the first two say yes, of 1 only the last
        TruePoll x = Polls.ruled(3, "says if figure = 0 then 2 - who else if figure = 1 then who - 1 else 1 end end;");
        d.is("split(0, 1): all told 1", x.split(0, 1), 0);
        d.is("split(1, 0): all told 1", x.split(1, 0), 7);
        d.is("split(2, 1): 0 and 1 told 2, 2 told 1", x.split(2, 1), 3);
        d.is("split(1, 2): 2 told 1", x.split(1, 2), 4);
    }

    @Sentence(promise = 31, says = "A SPLIT: who is told the first (bits).")
    static void nobodyAndAllCanBeTold(Due d) {
        TruePoll x = Polls.people(2, 0, 1);
        d.is("split(0, 2)", x.split(0, 2), 0);
        d.is("split(2, 0)", x.split(2, 0), 3);
        d.is("split(0, 0)", x.split(0, 0), 0);
        d.is("split(1, 1)", x.split(1, 1), 1);
        d.is("split(0, 0) of nobody", new TruePoll().split(0, 0), 0);
    }

    @Sentence(promise = 31, says = "NONE: no way, and for others.")
    static void otherSplitsAreNone(Due d) {
        TruePoll x = Polls.ruled(4, "says 0;");
        Polls.beyond(d, "split(.., 0)", 0, 4, NONE, a -> x.split(a, 0));
        Polls.beyond(d, "split(0, ..)", 0, 4, NONE, b -> x.split(0, b));
        Polls.beyond(d, "split(.., ..)", 0, 4, NONE, both -> x.split(both, both));
        d.is("split(4, 4): no way", x.split(4, 4), NONE);
        d.is("split(0, 0)", x.split(0, 0), 0);
    }

    @Sentence(promise = 31, says = "NONE: no way, and for others.")
    static void figuresOfThoseNoLongerThereAreOthers(Due d) {
        TruePoll x = Polls.people(4, 9, 0);
        x.image();
        for (int p = 4; p < 8; p++) {
            x.person(9, 0);
        }
        for (int f = 0; f <= 8; f++) {
            d.is("split(" + f + ", " + (8 - f) + ") of eight", x.split(f, 8 - f), (1 << f) - 1);
        }
        x.back();
        for (int f = 0; f <= 8; f++) {
            d.is("split(" + f + ", " + (8 - f) + ") of four", x.split(f, 8 - f), NONE);
            d.is("two(" + f + ", " + (8 - f) + ", 2) of four", x.two(f, 8 - f, 2), f == 4 ? 0 : NONE);
        }
        for (int f = 0; f <= 4; f++) {
            d.is("split(" + f + ", " + (4 - f) + ") of four", x.split(f, 4 - f), (1 << f) - 1);
        }
    }

    // ---- promises 32, 33

    @Sentence(promise = 32, says = "WHO MINDS: who says otherwise by the one figure than by the other.")
    static void nobodyToAllMind(Due d) {
        TruePoll x = Polls.people(8, 0, 1);
        for (int f = 0; f <= 8; f++) {
            d.is("mind(3, " + f + ")", x.mind(3, f), f <= 3 ? 0 : 255);
            d.is("mind(" + f + ", 4)", x.mind(f, 4), f <= 3 ? 255 : 0);
            d.is("mind(" + f + ", " + f + ")", x.mind(f, f), 0);
        }
    }

    @Sentence(promise = 32, says = "WHO MINDS: PEOPLE (bits).")
    static void theLastOneMinds(Due d) {
        TruePoll x = Polls.ruled(8, "says figure - who;");
        d.is("mind(7, 8)", x.mind(7, 8), 128);
        d.is("mind(1, 0)", x.mind(1, 0), 1);
        d.is("mind(0, 8)", x.mind(0, 8), 255);
        d.is("mind(0, 0) of nobody", new TruePoll().mind(0, 0), 0);
    }

    @Sentence(promise = 32, says = "NONE for others.")
    static void nobodyMindsOtherFigures(Due d) {
        TruePoll x = Polls.four();
        Polls.beyond(d, "mind(.., 4)", 0, 4, NONE, a -> x.mind(a, 4));
        Polls.beyond(d, "mind(0, ..)", 0, 4, NONE, b -> x.mind(0, b));
        Polls.beyond(d, "mind(.., ..)", 0, 4, NONE, both -> x.mind(both, both));
        d.is("mind(0, 4)", x.mind(0, 4), 14);
        d.is("mind(4, 4)", x.mind(4, 4), 0);
    }

    private static void unasked(Due d, TruePoll x, int fewest, int most) {
        d.is("unasked(false)", x.unasked(false), fewest);
        d.is("unasked(true)", x.unasked(true), most);
    }

    @Sentence(promise = 33, says = "UNASKED: how many say yes by all figures; how many by any.")
    static void figuresThatCannotBeToldDoNotCount(Due d) {
        // near 5: yes by 3 .. 7; near 2: yes by 0 .. 4
        unasked(d, Polls.people(2, 5, 3), 0, 0);
        unasked(d, Polls.people(3, 5, 3), 0, 3);
        unasked(d, Polls.people(4, 2, 3), 4, 4);
        unasked(d, Polls.people(5, 2, 3), 0, 5);
        unasked(d, Polls.ruled(8, "says figure - 8;"), 0, 0);
        unasked(d, Polls.ruled(8, "says figure - 7;"), 0, 8);
        unasked(d, Polls.ruled(8, "says figure + 1;"), 8, 8);
        unasked(d, Polls.ruled(8, "says figure;"), 0, 8);
    }

    @Sentence(promise = 33, says = "how many say yes by all figures; how many by any.")
    static void eachFigureCounts(Due d) {
        for (int f = 0; f <= 8; f++) {
            unasked(d, Polls.ruled(8, "says if figure = " + f + " then 0 else 1 end;"), 0, 8);
            unasked(d, Polls.ruled(8, "says if figure = " + f + " then 1 else 0 end;"), 0, 8);
            unasked(d, Polls.ruled(8, "says if figure = " + f + " then 3 - who else 1 end;"), 3, 8);
            unasked(d, Polls.ruled(8, "says if figure = " + f + " then 3 - who else 0 end;"), 0, 3);
        }
    }

    @Sentence(promise = 33, says = "UNASKED: at fewest (most false), at most (most true).")
    static void unaskedOfNobody(Due d) {
        unasked(d, new TruePoll(), 0, 0);
        unasked(d, Polls.people(8, 5, 0), 8, 8);
        unasked(d, Polls.people(8, 4, 0), 0, 0);
        unasked(d, Polls.four(), 1, 4);
    }

    // ---- promises 34, 35

    @Sentence(promise = 34, says = "ALIKE: by how many figures two (one and itself, too) say the same;")
    static void alikeByNoneToAll(Due d) {
        for (int people = 1; people <= 8; people++) {
            TruePoll x = Polls.people(people, 3, 3);
            d.is("one and itself of " + people, x.alike(0, 0), people + 1);
            d.is("the last and itself of " + people, x.alike(people - 1, people - 1), people + 1);
            d.is("the first and the last of " + people, x.alike(0, people - 1), people + 1);
        }
        TruePoll x = Polls.leaning(0, 4, 5, 0);
        d.is("never", x.alike(0, 1), 0);
        d.is("never", x.alike(1, 0), 0);
        d.is("always", x.alike(0, 2), 4);
    }

    @Sentence(promise = 34, says = "ALIKE.")
    static void alikeCountsTheFiguresThereAre(Due d) {
        TruePoll x = new TruePoll();
        x.person(5, 3);
        x.person(0, 0);
        d.is("near 5 and no, by 0 .. 2", x.alike(0, 1), 3);
        x.person(0, 0);
        d.is("by 0 .. 3", x.alike(0, 1), 3);
        x.person(0, 0);
        d.is("by 0 .. 4", x.alike(0, 1), 3);
        for (int i = 0; i < 4; i++) {
            x.person(0, 0);
        }
        d.is("by 0 .. 8", x.alike(0, 1), 4);
    }

    @Sentence(promise = 34, says = "NONE for others (PEOPLE).")
    static void othersAreNotAlike(Due d) {
        TruePoll x = Polls.four();
        Polls.beyond(d, "alike(.., 3)", 0, 3, NONE, a -> x.alike(a, 3));
        Polls.beyond(d, "alike(0, ..)", 0, 3, NONE, b -> x.alike(0, b));
        Polls.beyond(d, "alike(.., ..)", 0, 3, NONE, both -> x.alike(both, both));
        d.is("alike(3, 3)", x.alike(3, 3), 5);
        d.is("alike(0, 0) of nobody", new TruePoll().alike(0, 0), NONE);
    }

    private static void pair(Due d, TruePoll x, int one, int other) {
        d.is("pair(false)", x.pair(false), one);
        d.is("pair(true)", x.pair(true), other);
    }

    @Sentence(promise = 35, says = "MOST ALIKE: the two by whom most; of like ones the lowest one, then the lowest "
        + "other (fewer than two PEOPLE: none).")
    static void ofLikePairsTheLowest(Due d) {
        pair(d, Polls.people(8, 3, 1), 0, 1);
        pair(d, Polls.leaning(0, 9, 0, 0), 1, 2);
        pair(d, Polls.leaning(0, 9, 0, 9, 0), 0, 2);
        pair(d, Polls.leaning(0, 9, 0, 0, 9), 0, 3);
        pair(d, Polls.leaning(0, 9, 0, 9, 9), 0, 2);
        pair(d, Polls.leaning(3, 0, 1, 2, 3, 4, 5, 9, 9), 6, 7);
        pair(d, Polls.leaning(3, 9, 1, 2, 3, 4, 5, 7, 9), 0, 7);
    }

    @Sentence(promise = 35, says = "MOST ALIKE: the one (second false), the other one (second true).")
    static void twoWhoAreNeverAlikeAreMostAlike(Due d) {
        pair(d, Polls.leaning(0, 4, 5), 0, 1);
        pair(d, Polls.people(2, 0, 1), 0, 1);
    }

    @Sentence(promise = 35, says = "NONE: none.")
    static void fewerThanTwoAreNoPair(Due d) {
        pair(d, new TruePoll(), NONE, NONE);
        pair(d, Polls.people(1, 5, 0), NONE, NONE);
        TruePoll x = Polls.people(2, 5, 0);
        x.back();
        pair(d, x, NONE, NONE);
    }

    // ---- promises 36, 37

    @Sentence(promise = 36, says = "TO MOVE one, by a figure: the LEAN nearest to its own (of like ones the lower) by "
        + "which, all else being as now, it says otherwise itself; none.")
    static void theNearestLeanMovesIt(Due d) {
        for (int lean = 0; lean <= 9; lean++) {
            TruePoll steady = Polls.leaning(0, lean);
            d.is("steady of LEAN " + lean, steady.move(0, 0), lean <= 4 ? 5 : 4);
            TruePoll low = Polls.ruled(Polls.leaning(0, lean), "says if own = 0 then 1 else 0 end;");
            d.is("by 0 alone, of LEAN " + lean, low.move(0, 1), lean == 0 ? 1 : 0);
            TruePoll high = Polls.ruled(Polls.leaning(0, lean), "says if own = 9 then 1 else 0 end;");
            d.is("by 9 alone, of LEAN " + lean, high.move(0, 1), lean == 9 ? 8 : 9);
        }
    }

    @Sentence(promise = 36, says = "(of like ones the lower)")
    static void ofLikeLeansTheLower(Due d) {
        // near by figure 4 are LEANS 2 .. 6
        TruePoll x = Polls.leaning(3, 2, 3, 4, 5, 6);
        int[] due = {1, 1, 1, 7, 7};
        for (int p = 0; p <= 4; p++) {
            d.is("move(" + p + ", 4)", x.move(p, 4), due[p]);
        }
        TruePoll y = Polls.ruled(Polls.leaning(0, 4, 5), "says if own = 0 or own = 8 or own = 9 then 1 else 0 end;");
        d.is("0 or 8 of 4", y.move(0, 0), 0);
        d.is("0 or 8 of 5", y.move(1, 0), 8);
    }

    @Sentence(promise = 36, says = "all else being as now, it says otherwise itself")
    static void othersStayAsTheyAre(Due d) {
        TruePoll x = Polls.ruled(Polls.leaning(0, 4, 6), "says lean 0 - 4;");
        d.is("by its own LEAN", x.move(0, 0), 5);
        d.is("by another's", x.move(1, 0), NONE);
        TruePoll y = Polls.ruled(Polls.leaning(0, 4, 6), "says own - lean 1;");
        d.is("0 goes above 6", y.move(0, 0), 7);
        d.is("1 is never above itself", y.move(1, 0), NONE);
        d.is("LEANS", y.is(4), 10);
    }

    @Sentence(promise = 36, says = "TO MOVE: the LEAN.")
    static void itMovesByTheFigureTold(Due d) {
        TruePoll x = Polls.leaning(3, 9, 0, 0, 0, 0, 0, 0, 0);
        int[] due = {2, 3, 4, 5, 6, 7, 8, 4, 5};
        for (int f = 0; f <= 8; f++) {
            d.is("move(0, " + f + ")", x.move(0, f), due[f]);
        }
    }

    @Sentence(promise = 36, says = "NONE: none, and for others.")
    static void othersCannotBeMoved(Due d) {
        TruePoll x = Polls.four();
        String ahead = Polls.seen(x);
        Polls.beyond(d, "move(.., 0)", 0, 3, NONE, p -> x.move(p, 0));
        Polls.beyond(d, "move(0, ..)", 0, 4, NONE, f -> x.move(0, f));
        Polls.beyond(d, "move(3, ..)", 0, 4, NONE, f -> x.move(3, f));
        d.is("one who goes with it", x.move(1, 0), NONE);
        d.is("one who goes against it", x.move(2, 4), NONE);
        d.same("nothing is done", Polls.seen(x), ahead);
        d.is("move(0, 4)", x.move(0, 4), 4);
        d.is("move(3, 4)", x.move(3, 4), 1);
        d.is("move(0, 0) of nobody", new TruePoll().move(0, 0), NONE);
    }

    @Sentence(promise = 37, says = "CHEAPEST: what LEANS must change together at least, each as TO MOVE, so that as "
        + "many say yes as the figure")
    static void theCheapestMove(Due d) {
        int[] tooMany = {10, 5, 3, 1, 0};
        TruePoll yes = Polls.leaning(0, 5, 9, 6, 6);
        int[] lacking = {0, 1, 3, 6, 11};
        TruePoll no = Polls.leaning(0, 4, 0, 2, 3);
        for (int f = 0; f <= 4; f++) {
            d.is("cheapest(" + f + ") where all say yes", yes.cheapest(f), tooMany[f]);
            d.is("cheapest(" + f + ") where nobody does", no.cheapest(f), lacking[f]);
        }
        TruePoll far = Polls.ruled(Polls.people(8, 0, 0), "says if own = 9 then 1 else 0 end;");
        d.is("all by 9 each", far.cheapest(8), 72);
        d.is("one by 9", far.cheapest(1), 9);
    }

    @Sentence(promise = 37, says = "(each counted by its own change alone: of those who say yes just as many move as "
        + "are too many, of those who say no as are lacking; 0, if as many do)")
    static void eachIsCountedByItsOwnChange(Due d) {
        TruePoll x = Polls.ruled(Polls.leaning(0, 5, 5, 5), "says lean 0 - 4;");
        d.is("0 moves itself", x.cheapest(2), 1);
        d.is("1 and 2 can't", x.cheapest(1), NONE);
        d.is("as many do", x.cheapest(3), 0);
        // two say yes and two no: those of the other side are no movers, however little is theirs
        TruePoll y = Polls.leaning(0, 9, 8, 4, 1);
        d.is("one too many: 8 to 4", y.cheapest(1), 4);
        d.is("one lacking: 4 to 5", y.cheapest(3), 1);
        d.is("as many do", y.cheapest(2), 0);
    }

    @Sentence(promise = 37, says = "CHEAPEST.")
    static void cheapestIsToldTheFigure(Due d) {
        // near: by 0 nobody of LEAN 3 says yes, by 1 all do
        TruePoll x = Polls.people(2, 3, 3);
        d.is("cheapest(0)", x.cheapest(0), 0);
        d.is("cheapest(1): 3 to 4", x.cheapest(1), 1);
        d.is("cheapest(2)", x.cheapest(2), 0);
        d.is("cheapest(0) of nobody", new TruePoll().cheapest(0), 0);
    }

    @Sentence(promise = 37, says = "of those who say yes just as many move as are too many, of those who say no as "
        + "are lacking")
    static void thoseNoLongerThereDoNotMove(Due d) {
        TruePoll x = Polls.people(4, 0, 1);
        x.image();
        for (int p = 4; p < 8; p++) {
            x.person(4, 0);
        }
        d.is("cheapest(3): three of the last four move by 1", x.cheapest(3), 3);
        x.back();
        d.is("cheapest(1): the four who are there can't", x.cheapest(1), NONE);
        d.is("cheapest(3)", x.cheapest(3), NONE);
    }

    @Sentence(promise = 37, says = "NONE: none, and for others.")
    static void othersAreNotCheap(Due d) {
        TruePoll x = Polls.people(4, 0, 1);
        String ahead = Polls.seen(x);
        Polls.beyond(d, "cheapest", 0, 4, NONE, x::cheapest);
        d.is("none can be moved: told 1 nobody says yes", x.cheapest(1), NONE);
        d.is("none can be moved: told 3 all say yes", x.cheapest(3), NONE);
        d.same("nothing is done", Polls.seen(x), ahead);
        d.is("told 0 nobody does", x.cheapest(0), 0);
        d.is("told 4 all do", x.cheapest(4), 0);
        TruePoll y = Polls.leaning(0, 5, 5);
        y.person(0, 1);
        d.is("told 0 two are too many, and both can be moved", y.cheapest(0), 2);
        d.is("told 3 all say yes", y.cheapest(3), 0);
        Polls.beyond(d, "cheapest of nobody", 0, 0, NONE, new TruePoll()::cheapest);
    }
}
