/** Promises 38 to 62: odds, who is heard, a game, parties, decimals, villages, whose law, the book, the image. */
final class BoundsOfTheRest {
    private static final int NONE = Polls.NONE;

    private BoundsOfTheRest() {
    }

    // ---- promises 38, 39

    private static void sure(Due d, TruePoll x, int k, int odds, long upper, long lower) {
        d.is("sure(" + k + ", " + odds + ", false)", x.sure(k, odds, false), upper);
        d.is("sure(" + k + ", " + odds + ", true)", x.sure(k, odds, true), lower);
    }

    @Sentence(promise = 38, says = "HOW SURE: told the FIGURE as it is, each says the other one by odds of 10, alike "
        + "and apart from one another: how likely just k say yes, in lowest terms;")
    static void likelihoodsAreInLowestTerms(Due d) {
        TruePoll all = Polls.ruled(8, "says 1;");
        sure(d, all, 8, 1, 43046721, 100000000);
        sure(d, all, 7, 1, 4782969, 12500000);
        sure(d, all, 0, 1, 1, 100000000);
        sure(d, all, 8, 9, 1, 100000000);
        sure(d, all, 8, 2, 65536, 390625);
        sure(d, all, 4, 5, 35, 128);
        sure(d, all, 0, 5, 1, 256);
        sure(d, all, 8, 5, 1, 256);
        TruePoll two = Polls.leaning(0, 9, 0);
        sure(d, two, 0, 2, 4, 25);
        sure(d, two, 1, 2, 17, 25);
        sure(d, two, 2, 2, 4, 25);
    }

    @Sentence(promise = 38, says = "told the FIGURE as it is")
    static void likelihoodsGoByTheFigure(Due d) {
        TruePoll x = Polls.people(1, 0, 1);
        sure(d, x, 0, 0, 1, 1);
        sure(d, x, 1, 0, 0, 1);
        x.tell(1);
        d.is("FIGURE", x.is(2), 1);
        sure(d, x, 0, 0, 0, 1);
        sure(d, x, 1, 0, 1, 1);
    }

    @Sentence(promise = 38, says = "HOW SURE: the upper (low false), the lower one (low true).")
    static void oddsOfNoneAndOfTen(Due d) {
        TruePoll all = Polls.ruled(8, "says 1;");
        for (int k = 0; k <= 8; k++) {
            sure(d, all, k, 0, k == 8 ? 1 : 0, 1);
            sure(d, all, k, 10, k == 0 ? 1 : 0, 1);
        }
        TruePoll nobody = new TruePoll();
        for (int odds = 0; odds <= 10; odds++) {
            sure(d, nobody, 0, odds, 1, 1);
            sure(d, nobody, 1, odds, 0, 1);
            sure(d, nobody, 8, odds, 0, 1);
        }
    }

    @Sentence(promise = 38, says = "NONE for others (0 .. 8; 0 .. 10).")
    static void otherOddsAreNotSure(Due d) {
        TruePoll x = Polls.four();
        Polls.beyond(d, "sure(.., 5, false)", 0, 8, NONE, k -> x.sure(k, 5, false));
        Polls.beyond(d, "sure(.., 5, true)", 0, 8, NONE, k -> x.sure(k, 5, true));
        Polls.beyond(d, "sure(2, .., false)", 0, 10, NONE, odds -> x.sure(2, odds, false));
        Polls.beyond(d, "sure(2, .., true)", 0, 10, NONE, odds -> x.sure(2, odds, true));
        sure(d, x, 5, 5, 0, 1);
        sure(d, x, 8, 10, 0, 1);
        sure(d, x, 2, 0, 1, 1);
        sure(d, x, 2, 10, 1, 1);
    }

    private static void mean(Due d, TruePoll x, int odds, long upper, long lower) {
        d.is("mean(" + odds + ", false)", x.mean(odds, false), upper);
        d.is("mean(" + odds + ", true)", x.mean(odds, true), lower);
    }

    @Sentence(promise = 39, says = "MEAN: how many do on the whole.")
    static void howManyOnTheWhole(Due d) {
        TruePoll all = Polls.ruled(8, "says 1;");
        mean(d, all, 0, 8, 1);
        mean(d, all, 1, 36, 5);
        mean(d, all, 3, 28, 5);
        mean(d, all, 5, 4, 1);
        mean(d, all, 9, 4, 5);
        mean(d, all, 10, 0, 1);
        TruePoll one = Polls.leaning(0, 9, 0, 0);
        mean(d, one, 0, 1, 1);
        mean(d, one, 1, 11, 10);
        mean(d, one, 10, 2, 1);
    }

    @Sentence(promise = 39, says = "MEAN: the upper (low false), the lower one (low true).")
    static void meanGoesByTheFigure(Due d) {
        for (int odds = 0; odds <= 10; odds++) {
            mean(d, new TruePoll(), odds, 0, 1);
        }
        TruePoll x = Polls.people(1, 0, 1);
        mean(d, x, 1, 1, 10);
        x.tell(1);
        mean(d, x, 1, 9, 10);
    }

    @Sentence(promise = 39, says = "NONE for others.")
    static void otherOddsHaveNoMean(Due d) {
        TruePoll x = Polls.four();
        Polls.beyond(d, "mean(.., false)", 0, 10, NONE, odds -> x.mean(odds, false));
        Polls.beyond(d, "mean(.., true)", 0, 10, NONE, odds -> x.mean(odds, true));
        mean(d, x, 0, 2, 1);
        mean(d, x, 10, 2, 1);
    }

    // ---- promises 40, 41, 42

    /** Eight PEOPLE who each hear the next one, the last of them nobody. */
    private static TruePoll row() {
        TruePoll x = Polls.people(8, 0, 0);
        for (int p = 0; p <= 6; p++) {
            x.hear(p, p + 1);
        }
        return x;
    }

    @Sentence(promise = 40, says = "WHO IS HEARD by one: whom it hears, whom they hear, .. (itself, if it comes back "
        + "to it).")
    static void hearingGoesOnToTheEnd(Due d) {
        TruePoll x = row();
        for (int p = 0; p <= 7; p++) {
            d.is("reach(" + p + ") in a row", x.reach(p), 256 - (2 << p));
        }
        x.hear(7, 0);
        for (int p = 0; p <= 7; p++) {
            d.is("reach(" + p + ") in a ring", x.reach(p), 255);
        }
        x.hear(3, 4);
        d.is("reach(3), who hears nobody", x.reach(3), 0);
        d.is("reach(4)", x.reach(4), 255 - 16);
        TruePoll back = Polls.people(8, 0, 0);
        for (int p = 1; p <= 7; p++) {
            back.hear(p, p - 1);
        }
        for (int p = 0; p <= 7; p++) {
            d.is("reach(" + p + ") in a row back", back.reach(p), (1 << p) - 1);
        }
    }

    @Sentence(promise = 40, says = "WHO IS HEARD: PEOPLE (bits).")
    static void itselfIfItComesBack(Due d) {
        TruePoll x = Polls.people(3, 0, 0);
        d.is("reach(0) of nobody", x.reach(0), 0);
        x.hear(0, 1);
        d.is("reach(0)", x.reach(0), 2);
        x.hear(1, 0);
        d.is("reach(0), which comes back", x.reach(0), 3);
        d.is("reach(1)", x.reach(1), 3);
        d.is("reach(2)", x.reach(2), 0);
        x.hear(2, 0);
        d.is("reach(2), which does not", x.reach(2), 3);
    }

    @Sentence(promise = 40, says = "NONE for others.")
    static void othersHearNobody(Due d) {
        for (int people : new int[] {1, 4, 8}) {
            TruePoll x = Polls.people(people, 0, 0);
            Polls.beyond(d, "reach of " + people, 0, people - 1, NONE, x::reach);
            d.is("reach(" + (people - 1) + ")", x.reach(people - 1), 0);
        }
        d.is("reach(0) of nobody", new TruePoll().reach(0), NONE);
    }

    @Sentence(promise = 41, says = "CIRCLES: sets of PEOPLE who all hear one another so (one alone, too): how many.")
    static void circlesOfOneToAll(Due d) {
        TruePoll x = row();
        d.is("each alone in a row", x.circles(), 8);
        for (int p = 1; p <= 7; p++) {
            x.hear(p, 0);
            d.is("0 .. " + p + " in a circle", x.circles(), 8 - p);
            x.hear(p, 0);
        }
        TruePoll pairs = Polls.people(8, 0, 0);
        for (int p = 0; p <= 7; p++) {
            pairs.hear(p, p ^ 1);
        }
        d.is("four of two", pairs.circles(), 4);
        pairs.hear(0, 2);
        d.is("heard, but not back", pairs.circles(), 4);
        pairs.hear(3, 1);
        d.is("back by others", pairs.circles(), 3);
    }

    @Sentence(promise = 41, says = "CIRCLES: how many.")
    static void circlesOfNobody(Due d) {
        d.is("of nobody", new TruePoll().circles(), 0);
        d.is("of one", Polls.people(1, 0, 0).circles(), 1);
        d.is("of eight", Polls.people(8, 0, 0).circles(), 8);
    }

    @Sentence(promise = 42, says = "LOUDEST: whom most hear (one at least); of like ones the lowest; none.")
    static void whomMostHear(Due d) {
        TruePoll x = Polls.people(8, 0, 0);
        d.is("heard by nobody", x.loud(), NONE);
        x.hear(0, 7);
        d.is("heard by one", x.loud(), 7);
        x.hear(7, 3);
        d.is("of like ones the lowest", x.loud(), 3);
        x.hear(1, 7);
        d.is("heard by two", x.loud(), 7);
        for (int p = 1; p <= 7; p++) {
            x.hear(p, 0);
        }
        d.is("heard by seven", x.loud(), 0);
        d.is("in a row, each but the first by one", row().loud(), 1);
    }

    @Sentence(promise = 42, says = "LOUDEST.")
    static void whomTheyHearThroughOthersIsNoLouder(Due d) {
        TruePoll x = Polls.people(4, 0, 0);
        x.hear(0, 1);
        x.hear(1, 3);
        x.hear(2, 1);
        // 3 is heard through 1 by all, but by 1 alone itself
        d.is("loud()", x.loud(), 1);
    }

    @Sentence(promise = 42, says = "NONE: none.")
    static void nobodyIsLoud(Due d) {
        d.is("of nobody", new TruePoll().loud(), NONE);
        TruePoll x = Polls.people(2, 0, 0);
        d.is("of two", x.loud(), NONE);
        x.hear(0, 1);
        x.hear(0, 1);
        d.is("who hears no more", x.loud(), NONE);
    }

    // ---- promise 43

    @Sentence(promise = 43, says = "WHAT PARTS MOST: of figures that by which TEXTS say unlike numbers of yes, as "
        + "many unlike ones as can be; of like ones the lowest (0 without TEXTS).")
    static void asManyUnlikeAsCanBe(Due d) {
        TruePoll x = Polls.people(4, 5, 0);
        d.is("without TEXTS", x.part(), 0);
        Feeder.read(x, "says figure - 2;");
        d.is("by one TEXT", x.part(), 0);
        Feeder.read(x, "says 0;");
        d.is("0 and 4 by 3", x.part(), 3);
        Feeder.read(x, "says figure - who - 1;");
        // by 3: 4, 0 and 2; by 2 it is 0, 0 and 1; by 4 4, 0 and 3
        d.is("three by 3", x.part(), 3);
        Feeder.read(x, "sways 2;");
        // by SORT 4: by 3 4, 0, 2, 4; by 4 4, 0, 3, 4; by 2 0, 0, 1, 4
        d.is("a TEXT without says goes by SORT", x.part(), 2);
    }

    @Sentence(promise = 43, says = "TEXTS say unlike numbers of yes, as many unlike ones as can be")
    static void whoSaysItIsAllOne(Due d) {
        TruePoll x = Polls.people(4, 5, 0);
        // by 0 .. 3 one says yes, but each time another one; by 4 two do by the third TEXT
        Feeder.read(x, "says 1 - who;");
        Feeder.read(x, "says if who = 1 then 1 else 0 end;");
        Feeder.read(x, "says if who = 3 or figure = 4 and who = 2 then 1 else 0 end;");
        d.is("part()", x.part(), 4);
        x.by(2);
        d.is("comes(0)", x.comes(0), 1);
        d.is("comes(4)", x.comes(4), 2);
        d.is("part(), whatever rules", x.part(), 4);
    }

    @Sentence(promise = 43, says = "WHAT PARTS MOST: the figure.")
    static void theHighestFigureCanPart(Due d) {
        TruePoll x = Polls.people(8, 5, 0);
        Feeder.read(x, "says 0;");
        Feeder.read(x, "says figure - 7;");
        d.is("by 8 alone", x.part(), 8);
        TruePoll y = Polls.people(7, 5, 0);
        Feeder.read(y, "says 0;");
        Feeder.read(y, "says figure - 7;");
        d.is("8 is no figure of seven", y.part(), 0);
        TruePoll nobody = new TruePoll();
        Feeder.read(nobody, "says 1;");
        Feeder.read(nobody, "says figure;");
        d.is("of nobody", nobody.part(), 0);
    }

    // ---- promises 44, 45

    /** Each figure comes of itself, and the FIGURE is as asked. */
    private static TruePoll standing(int figure) {
        TruePoll x = Polls.ruled(8, "says figure - who;");
        for (int i = 0; i < 60 && x.is(2) != figure; i++) {
            x.tell(figure);
        }
        if (x.is(2) != figure) {
            throw new IllegalStateException("FIGURE is " + x.is(2));
        }
        return x;
    }

    @Sentence(promise = 44, says = "A GAME of n ROUNDS: by turns one who wishes for as much and one who wishes for as "
        + "little as can be tells a figure one more, one less or the same as the FIGURE (if there is such; at first "
        + "as it is now), WHAT COMES of it is the FIGURE then (all else as now): the FIGURE behind all, if both "
        + "choose as well as can be, the first wishing for much.")
    static void theFirstWishesForMuch(Due d) {
        TruePoll x = standing(4);
        for (int n = 0; n <= 8; n++) {
            d.is("game(" + n + ") from 4", x.game(n), 4 + n % 2);
        }
        // what is told comes the other way around: one more for each less
        TruePoll y = Polls.coming(8, 7, 6, 5, 4, 3, 2, 1, 0);
        d.is("game(1) from 0: told 0", y.game(1), 8);
        d.is("game(2) from 0: told 0 or 1, then 8", y.game(2), 0);
        d.is("game(3) from 0", y.game(3), 8);
        d.is("nothing is done", y.is(0) + y.is(2), 0);
    }

    @Sentence(promise = 44, says = "(if there is such; at first as it is now)")
    static void noFigureBelow0AndNoneAbovePeople(Due d) {
        TruePoll top = standing(8);
        TruePoll bottom = standing(0);
        for (int n = 0; n <= 8; n++) {
            d.is("game(" + n + ") from 8", top.game(n), n == 0 ? 8 : 7 + n % 2);
            d.is("game(" + n + ") from 0", bottom.game(n), n % 2);
        }
        d.is("choice(1) from 8: the same", top.choice(1), 8);
        // from 0 the second comes back to 0 whether 0 or 1 was told
        d.is("choice(2) from 0", bottom.choice(2), 0);
        d.is("choice(1) from 0", bottom.choice(1), 1);
    }

    @Sentence(promise = 44, says = "tells a figure one more, one less or the same as the FIGURE (if there is such;")
    static void below0ThereIsNothingToTell(Due d) {
        TruePoll x = standing(3);
        Polls.ruled(x, "says if figure < 2 then 1 - who else 0 end;");
        d.is("game(1) from 3: 0 comes of 2, 3 and 4", x.game(1), 0);
        d.is("game(2): 1 comes of all that the second can tell, 0 and 1", x.game(2), 1);
        d.is("choice(2)", x.choice(2), 2);
        d.is("game(3): from 1 the first tells 0 or 1", x.game(3), 1);
        TruePoll y = standing(5);
        Polls.ruled(y, "says if figure > 6 then 7 - who else if figure > 3 then 1 else figure end end;");
        d.is("game(1) from 5: 8 comes of 4, 5 and 6", y.game(1), 8);
        d.is("game(2): 7 comes of all that the second can tell, 7 and 8", y.game(2), 7);
        d.is("choice(2)", y.choice(2), 4);
    }

    @Sentence(promise = 44, says = "(0 ROUNDS: the FIGURE as it is.)")
    static void aGameOf0Rounds(Due d) {
        d.is("game(0) from 8", standing(8).game(0), 8);
        d.is("game(0) from 3", standing(3).game(0), 3);
        TruePoll x = Polls.ruled(8, "says 1;");
        d.is("game(0), though 8 would come", x.game(0), 0);
        d.is("game(1)", x.game(1), 8);
    }

    @Sentence(promise = 44, says = "A GAME: the FIGURE at last.")
    static void aGameOfNobody(Due d) {
        TruePoll nobody = new TruePoll();
        for (int n = 0; n <= 8; n++) {
            d.is("game(" + n + ") of nobody", nobody.game(n), 0);
        }
        TruePoll one = Polls.coming(1, 0);
        // from 0 the first tells 0 for 1, and the second 1 for 0
        for (int n = 0; n <= 8; n++) {
            d.is("game(" + n + ") of one", one.game(n), n % 2);
        }
    }

    @Sentence(promise = 44, says = "NONE for others (0 .. 8).")
    static void otherGamesAreNone(Due d) {
        TruePoll x = Polls.four();
        String ahead = Polls.seen(x);
        Polls.beyond(d, "game", 0, 8, NONE, x::game);
        d.is("game(8)", x.game(8), 3);
        d.is("game(0)", x.game(0), 0);
        d.same("nothing is done", Polls.seen(x), ahead);
    }

    @Sentence(promise = 45, says = "A CHOICE: the lowest figure the first tells by which it comes so.")
    static void ofLikeChoicesTheLowest(Due d) {
        TruePoll x = standing(4);
        for (int n = 1; n <= 8; n++) {
            d.is("choice(" + n + ") from 4", x.choice(n), 5);
        }
        for (int figure = 0; figure <= 8; figure++) {
            TruePoll all = standing(figure);
            Polls.ruled(all, "says 1;");
            d.is("choice(1) from " + figure + " where 8 comes of all", all.choice(1), Math.max(0, figure - 1));
            d.is("game(1)", all.game(1), 8);
        }
    }

    @Sentence(promise = 45, says = "A CHOICE: the figure.")
    static void choicesAtTheEnds(Due d) {
        TruePoll nobody = new TruePoll();
        for (int n = 1; n <= 8; n++) {
            d.is("choice(" + n + ") of nobody", nobody.choice(n), 0);
        }
        d.is("choice(1) from 7", standing(7).choice(1), 8);
        d.is("choice(8) from 8", standing(8).choice(8), 8);
        d.is("choice(8) from 0", standing(0).choice(8), 0);
        d.is("choice(7) from 0: the last turn is its own, whether 0 or 1 was told", standing(0).choice(7), 0);
    }

    @Sentence(promise = 45, says = "NONE for others (1 .. 8).")
    static void otherChoicesAreNone(Due d) {
        TruePoll x = Polls.four();
        Polls.beyond(d, "choice", 1, 8, NONE, x::choice);
        d.is("choice(1)", x.choice(1), 1);
        d.is("choice(8)", x.choice(8), 0);
    }

    // ---- promises 46 to 49

    @Sentence(promise = 46, says = "PARTIES (8 at most; told: from a figure to a figure, 0 .. 8): each lives by "
        + "figures from the one to the other.")
    static void eightPartiesAtMost(Due d) {
        TruePoll x = new TruePoll();
        for (int i = 1; i <= 8; i++) {
            d.is("party(" + i + ", 8)", x.party(i, 8), i);
        }
        d.is("a ninth", x.party(0, 8), -2);
        d.is("a ninth", x.party(8, 8), -2);
        d.is("a ninth that is none", x.party(5, 4), -2);
        for (int f = 0; f <= 8; f++) {
            d.is("lives(" + f + ")", x.lives(f), f);
        }
    }

    @Sentence(promise = 46, says = "A PARTY: how many there are (low NONE: none any more).")
    static void noneAnyMore(Due d) {
        TruePoll x = new TruePoll();
        d.is("party(NONE, 0) of none", x.party(NONE, 0), 0);
        for (int i = 1; i <= 8; i++) {
            x.party(0, 8);
        }
        d.is("party(NONE, 8) of eight", x.party(NONE, 8), 0);
        d.is("lives(0)", x.lives(0), 0);
        d.is("lives(8)", x.lives(8), 0);
        d.is("fewest(true)", x.fewest(true), 0);
        d.is("party(3, 3)", x.party(3, 3), 1);
        d.is("lives(3)", x.lives(3), 1);
        d.is("lives(4)", x.lives(4), 0);
    }

    @Sentence(promise = 46, says = "-2 for others (low 0 to high; high to 8), or if there are 8.")
    static void otherPartiesAreMinusTwo(Due d) {
        TruePoll x = new TruePoll();
        d.is("party(0, 0)", x.party(0, 0), 1);
        d.is("party(8, 8)", x.party(8, 8), 2);
        d.is("party(0, 8)", x.party(0, 8), 3);
        String ahead = Polls.seen(x);
        int[][] wrong = {{-2, 0}, {-2, 8}, {-2, -2}, {1, 0}, {8, 7}, {5, 4}, {0, -1}, {0, -2}, {0, 9}, {8, 9}, {9, 9},
            {9, 8}, {9, 0}, {Polls.LOW, 0}, {0, Polls.LOW}, {Polls.LOW, Polls.LOW}, {0, Polls.HIGH},
            {Polls.HIGH, Polls.HIGH}, {Polls.HIGH, 8}, {Polls.LOW, Polls.HIGH}, {32, 40}, {0, 31}, {0, 32}};
        for (int[] w : wrong) {
            d.is("party(" + w[0] + ", " + w[1] + ")", x.party(w[0], w[1]), -2);
        }
        d.same("nothing is done", Polls.seen(x), ahead);
        d.is("party(7, 8)", x.party(7, 8), 4);
    }

    @Sentence(promise = 47, says = "LIVE: how many by a figure;")
    static void bothEndsLive(Due d) {
        for (int low = 0; low <= 8; low++) {
            for (int high = low; high <= 8; high++) {
                TruePoll x = new TruePoll();
                x.party(low, high);
                for (int f = 0; f <= 8; f++) {
                    d.is("lives(" + f + ") by " + low + " .. " + high, x.lives(f), f >= low && f <= high ? 1 : 0);
                }
            }
        }
    }

    @Sentence(promise = 47, says = "LIVE.")
    static void noneToEightLive(Due d) {
        TruePoll x = new TruePoll();
        d.is("lives(8) without PARTIES", x.lives(8), 0);
        for (int i = 1; i <= 8; i++) {
            x.party(4, 4);
            d.is("lives(4)", x.lives(4), i);
        }
        d.is("lives(3)", x.lives(3), 0);
        d.is("lives(5)", x.lives(5), 0);
    }

    @Sentence(promise = 47, says = "NONE for others (0 .. 8).")
    static void noneLiveByOtherFigures(Due d) {
        TruePoll x = new TruePoll();
        x.party(0, 8);
        Polls.beyond(d, "lives", 0, 8, NONE, x::lives);
        d.is("lives(0)", x.lives(0), 1);
        d.is("lives(8), though nobody is there", x.lives(8), 1);
    }

    @Sentence(promise = 48, says = "MOST LIVE: by which figure (0 .. 8) most; of like ones the lowest.")
    static void theLowestByWhichMostLive(Due d) {
        TruePoll x = new TruePoll();
        d.is("without PARTIES", x.most(), 0);
        x.party(8, 8);
        d.is("by 8 alone", x.most(), 8);
        x.party(0, 2);
        d.is("by one each of 0 .. 2 and 8", x.most(), 0);
        x.party(2, 7);
        d.is("by 2", x.most(), 2);
        x.party(7, 8);
        d.is("two each of 2, 7 and 8", x.most(), 2);
        x.party(7, 8);
        d.is("three each of 7 and 8", x.most(), 7);
    }

    @Sentence(promise = 48, says = "MOST LIVE: the figure.")
    static void theMostAtEachFigure(Due d) {
        for (int f = 0; f <= 8; f++) {
            TruePoll x = new TruePoll();
            x.party(f, f);
            d.is("most() by " + f + " alone", x.most(), f);
            x.party(f, 8);
            x.party(0, f);
            d.is("most() by " + f, x.most(), f);
        }
    }

    private static void fewest(Due d, TruePoll x, int set, int many) {
        d.is("fewest(false)", x.fewest(false), set);
        d.is("fewest(true)", x.fewest(true), many);
    }

    @Sentence(promise = 49, says = "FEWEST figures (0 .. 8; bits) so that each PARTY lives by one of them; of like "
        + "ones the lowest set (without PARTIES 0).")
    static void theLowestOfTheFewestSets(Due d) {
        TruePoll x = new TruePoll();
        fewest(d, x, 0, 0);
        x.party(0, 8);
        fewest(d, x, 1, 1);
        x.party(3, 7);
        fewest(d, x, 8, 1);
        x.party(7, 8);
        fewest(d, x, 128, 1);
        x.party(1, 2);
        fewest(d, x, 2 + 128, 2);
        x.party(2, 4);
        fewest(d, x, 4 + 128, 2);
        x.party(5, 5);
        fewest(d, x, 4 + 32 + 128, 3);
    }

    @Sentence(promise = 49, says = "FEWEST: figures (many false; bits), how many (many true).")
    static void oneToEightFigures(Due d) {
        TruePoll x = new TruePoll();
        for (int f = 8; f >= 1; f--) {
            x.party(f, f);
            fewest(d, x, 512 - (1 << f), 9 - f);
        }
        TruePoll y = new TruePoll();
        for (int f = 0; f <= 7; f++) {
            y.party(f, f + 1);
        }
        // 0 or 1, 1 or 2 .. 7 or 8: every other one
        fewest(d, y, 2 + 8 + 32 + 128, 4);
        y.party(NONE, 0);
        fewest(d, y, 0, 0);
    }

    // ---- promises 50, 51

    @Sentence(promise = 50, says = "DECIMALS of a part of a whole: the i-th (from 0 on);")
    static void theFirstAndTheThousandth(Due d) {
        TruePoll x = new TruePoll();
        d.is("1/7 at 0", x.decimal(1, 7, 0), 1);
        d.is("1/7 at 6", x.decimal(1, 7, 6), 1);
        d.is("1/7 at 999", x.decimal(1, 7, 999), 8);
        d.is("1/4 at 0", x.decimal(1, 4, 0), 2);
        d.is("1/4 at 1", x.decimal(1, 4, 1), 5);
        d.is("1/4 at 2", x.decimal(1, 4, 2), 0);
        d.is("1/4 at 999", x.decimal(1, 4, 999), 0);
        d.is("1/99 at 998", x.decimal(1, 99, 998), 0);
        d.is("1/99 at 999", x.decimal(1, 99, 999), 1);
    }

    @Sentence(promise = 50, says = "A DECIMAL.")
    static void decimalsOfTheLeastAndTheMost(Due d) {
        TruePoll x = new TruePoll();
        for (int i : new int[] {0, 1, 500, 999}) {
            d.is("0/1 at " + i, x.decimal(0, 1, i), 0);
            d.is("0/99 at " + i, x.decimal(0, 99, i), 0);
            d.is("98/99 at " + i, x.decimal(98, 99, i), i % 2 == 0 ? 9 : 8);
        }
        d.is("9/10 at 0", x.decimal(9, 10, 0), 9);
        d.is("1/2 at 0", x.decimal(1, 2, 0), 5);
        d.is("97/98 at 0", x.decimal(97, 98, 0), 9);
        d.is("97/98 at 1", x.decimal(97, 98, 1), 8);
        d.is("97/98 at 2", x.decimal(97, 98, 2), 9);
    }

    private static final int[][] NO_PARTS = {{-1, 99}, {-1, 1}, {1, 1}, {2, 1}, {98, 98}, {99, 99}, {99, 98},
        {99, 100}, {98, 100}, {0, 100}, {0, 0}, {1, 0}, {-1, 0}, {0, -1}, {-2, -1}, {Polls.LOW, 1}, {0, Polls.LOW},
        {Polls.LOW, Polls.LOW}, {0, Polls.HIGH}, {Polls.HIGH, Polls.HIGH}, {Polls.HIGH, 99}, {Polls.LOW, Polls.HIGH}};

    @Sentence(promise = 50, says = "NONE for others (part 0 .. 98, below whole; whole 1 .. 99; i 0 .. 999).")
    static void otherDecimalsAreNone(Due d) {
        TruePoll x = new TruePoll();
        for (int[] w : NO_PARTS) {
            d.is("decimal(" + w[0] + ", " + w[1] + ", 0)", x.decimal(w[0], w[1], 0), NONE);
            d.is("decimal(" + w[0] + ", " + w[1] + ", 999)", x.decimal(w[0], w[1], 999), NONE);
        }
        Polls.beyond(d, "decimal(0, 1, ..)", 0, 999, NONE, i -> x.decimal(0, 1, i));
        Polls.beyond(d, "decimal(98, 99, ..)", 0, 999, NONE, i -> x.decimal(98, 99, i));
        d.is("decimal(97, 98, 0)", x.decimal(97, 98, 0), 9);
    }

    private static void decimals(Due d, TruePoll x, int part, int whole, int ahead, int ring) {
        d.is("decimals(" + part + ", " + whole + ", false)", x.decimals(part, whole, false), ahead);
        d.is("decimals(" + part + ", " + whole + ", true)", x.decimals(part, whole, true), ring);
    }

    @Sentence(promise = 51, says = "how many there are ahead of the ring of those that come again and again; how many "
        + "are in the ring (0 alone is such a ring: of 1 by 4, 0.25 and 0 on, 2 and 1).")
    static void zeroAloneIsARing(Due d) {
        TruePoll x = new TruePoll();
        decimals(d, x, 1, 4, 2, 1);
        decimals(d, x, 1, 2, 1, 1);
        decimals(d, x, 0, 1, 0, 1);
        decimals(d, x, 0, 99, 0, 1);
        decimals(d, x, 1, 3, 0, 1);
        decimals(d, x, 1, 6, 1, 1);
        decimals(d, x, 1, 64, 6, 1);
        decimals(d, x, 32, 64, 1, 1);
        decimals(d, x, 1, 96, 5, 1);
        decimals(d, x, 1, 97, 0, 96);
        decimals(d, x, 96, 97, 0, 96);
        decimals(d, x, 98, 99, 0, 2);
        decimals(d, x, 33, 99, 0, 1);
        decimals(d, x, 1, 98, 1, 42);
    }

    @Sentence(promise = 51, says = "DECIMALS ahead of the ring (ring false), in it (ring true).")
    static void eachPartOfEachWhole(Due d) {
        for (int whole = 1; whole <= 99; whole++) {
            TruePoll x = new TruePoll();
            for (int part = 0; part < whole; part++) {
                int rest = whole / common(part, whole);
                int ahead = Math.max(timesIn(2, rest), timesIn(5, rest));
                decimals(d, x, part, whole, ahead, order(without(5, without(2, rest))));
            }
        }
    }

    private static int common(int a, int b) {
        return a == 0 ? b : common(b % a, a);
    }

    private static int timesIn(int prime, int n) {
        return n % prime == 0 ? 1 + timesIn(prime, n / prime) : 0;
    }

    private static int without(int prime, int n) {
        return n % prime == 0 ? without(prime, n / prime) : n;
    }

    /** The least power of 10 that leaves 1 by n. */
    private static int order(int n) {
        int power = 1;
        for (int left = 10 % n; left != 1 % n; left = left * 10 % n) {
            power++;
        }
        return power;
    }

    @Sentence(promise = 51, says = "NONE for others (likewise).")
    static void otherRingsAreNone(Due d) {
        TruePoll x = new TruePoll();
        for (int[] w : NO_PARTS) {
            decimals(d, x, w[0], w[1], NONE, NONE);
        }
        decimals(d, x, 97, 98, 1, 42);
    }

    // ---- promises 52, 53, 54

    @Sentence(promise = 52, says = "VILLAGES 0 .. 9 around: how many say yes in each (told; at first 0).")
    static void villagesAreAtFirst0(Due d) {
        TruePoll x = new TruePoll();
        for (int v = 0; v <= 9; v++) {
            d.is("window(" + v + ", 1)", x.window(v, 1), 0);
            d.yes("village(" + v + ", 99)", x.village(v, 99));
            d.is("window(" + v + ", 1)", x.window(v, 1), 99);
        }
        d.is("all", x.window(0, 10), 990);
        d.yes("village(9, 0)", x.village(9, 0));
        d.is("told anew", x.window(0, 10), 891);
    }

    @Sentence(promise = 52, says = "A VILLAGE told: true.")
    static void eachNumberCanBeTold(Due d) {
        TruePoll x = new TruePoll();
        for (int yes = 0; yes <= 99; yes++) {
            d.yes("village(0, " + yes + ")", x.village(0, yes));
            d.is("window(0, 1)", x.window(0, 1), yes);
        }
    }

    @Sentence(promise = 52, says = "False for others (0 .. 9; 0 .. 99).")
    static void otherVillagesAreNotTold(Due d) {
        TruePoll x = new TruePoll();
        x.village(0, 7);
        x.village(9, 8);
        String ahead = Polls.seen(x);
        Polls.beyond(d, "village(.., 1)", 0, 9, 0, v -> x.village(v, 1) ? 1 : 0);
        Polls.beyond(d, "village(0, ..)", 0, 99, 0, yes -> x.village(0, yes) ? 1 : 0);
        Polls.beyond(d, "village(9, ..)", 0, 99, 0, yes -> x.village(9, yes) ? 1 : 0);
        d.same("nothing is done", Polls.seen(x), ahead);
    }

    @Sentence(promise = 53, says = "A WINDOW: so many VILLAGES (0 .. 10) from one on, around: together.")
    static void windowsGoAround(Due d) {
        TruePoll x = new TruePoll();
        for (int v = 0; v <= 9; v++) {
            x.village(v, v + 1);
        }
        for (int from = 0; from <= 9; from++) {
            int together = 0;
            for (int many = 0; many <= 10; many++) {
                d.is("window(" + from + ", " + many + ")", x.window(from, many), together);
                together += from + many <= 9 ? from + many + 1 : from + many - 9;
            }
        }
    }

    @Sentence(promise = 53, says = "A WINDOW.")
    static void theWindowOfTheLastGoesOnWithTheFirst(Due d) {
        TruePoll x = new TruePoll();
        x.village(0, 50);
        x.village(9, 3);
        x.village(1, 1);
        d.is("window(9, 0)", x.window(9, 0), 0);
        d.is("window(9, 1)", x.window(9, 1), 3);
        d.is("window(9, 2)", x.window(9, 2), 53);
        d.is("window(9, 10)", x.window(9, 10), 54);
        d.is("window(0, 9)", x.window(0, 9), 51);
    }

    @Sentence(promise = 53, says = "NONE for others (0 .. 9; 0 .. 10).")
    static void otherWindowsAreNone(Due d) {
        TruePoll x = new TruePoll();
        x.village(0, 5);
        Polls.beyond(d, "window(.., 0)", 0, 9, NONE, from -> x.window(from, 0));
        Polls.beyond(d, "window(.., 10)", 0, 9, NONE, from -> x.window(from, 10));
        Polls.beyond(d, "window(0, ..)", 0, 10, NONE, many -> x.window(0, many));
        Polls.beyond(d, "window(9, ..)", 0, 10, NONE, many -> x.window(9, many));
        d.is("window(0, 10)", x.window(0, 10), 5);
    }

    @Sentence(promise = 54, says = "BUSIEST: from which so many have most; of like ones the lowest.")
    static void theBusiestGoesAround(Due d) {
        TruePoll x = new TruePoll();
        x.village(9, 5);
        x.village(0, 4);
        x.village(5, 8);
        // one: 5 (8); two: 9 and 0 (9); three: from 8, 9, too, 9 each; four: from 7; five: from 5 (8 and 5); six: from 5, 17
        int[] due = {0, 5, 9, 8, 7, 5, 5, 4, 3, 2, 0};
        for (int many = 0; many <= 10; many++) {
            d.is("busiest(" + many + ")", x.busiest(many), due[many]);
        }
    }

    @Sentence(promise = 54, says = "BUSIEST: from which so many have most;")
    static void eachVillageCanBeTheBusiest(Due d) {
        for (int village = 0; village <= 9; village++) {
            TruePoll x = new TruePoll();
            x.village(village, 3);
            x.village((village + 1) % 10, 2);
            d.is("busiest(1) with most in " + village, x.busiest(1), village);
            d.is("busiest(2) with most in " + village, x.busiest(2), village);
        }
    }

    @Sentence(promise = 54, says = "BUSIEST.")
    static void ofLikeVillagesTheLowest(Due d) {
        TruePoll x = new TruePoll();
        for (int many = 0; many <= 10; many++) {
            d.is("busiest(" + many + ") where all have none", x.busiest(many), 0);
        }
        x.village(9, 1);
        d.is("busiest(1)", x.busiest(1), 9);
        d.is("busiest(2)", x.busiest(2), 8);
        d.is("busiest(0)", x.busiest(0), 0);
        d.is("busiest(10)", x.busiest(10), 0);
        x.village(3, 1);
        d.is("busiest(1)", x.busiest(1), 3);
    }

    @Sentence(promise = 54, says = "NONE for others (0 .. 10).")
    static void noneAreBusiestOfOthers(Due d) {
        TruePoll x = new TruePoll();
        x.village(4, 4);
        Polls.beyond(d, "busiest", 0, 10, NONE, x::busiest);
        d.is("busiest(1)", x.busiest(1), 4);
    }

    // ---- promises 55, 56

    @Sentence(promise = 55, says = "SAID: how many there are (figure NONE: none any more).")
    static void noneSaidAnyMore(Due d) {
        TruePoll x = new TruePoll();
        d.is("said(NONE, 0) of none", x.said(NONE, 0), 0);
        for (int i = 1; i <= 8; i++) {
            d.is("said(" + i + ", 8)", x.said(i, 8), i);
            d.is("about(4)", x.about(4), i);
        }
        d.is("said(NONE, 8) of eight", x.said(NONE, 8), 0);
        d.is("about(4)", x.about(4), 0);
        d.is("said(0, 0)", x.said(0, 0), 1);
    }

    @Sentence(promise = 55, says = "-2 for others (0 .. 8 each), or if there are 8.")
    static void otherSaidAreMinusTwo(Due d) {
        TruePoll x = Polls.people(2, 5, 0);
        Feeder.read(x, "says 1;");
        x.said(8, 2);
        String ahead = Polls.seen(x);
        for (int wrong : Polls.beyond(0, 8)) {
            if (wrong != NONE) {
                d.is("said(" + wrong + ", 0)", x.said(wrong, 0), -2);
            }
            d.is("said(0, " + wrong + ")", x.said(0, wrong), -2);
            d.is("said(8, " + wrong + ")", x.said(8, wrong), -2);
        }
        d.is("said(9, -1)", x.said(9, -1), -2);
        d.same("nothing is done", Polls.seen(x), ahead);
        for (int i = 2; i <= 8; i++) {
            d.is("said(0, 2)", x.said(0, 2), i);
        }
        d.is("a ninth", x.said(0, 0), -2);
        d.is("a ninth", x.said(8, 8), -2);
        d.is("about(4)", x.about(4), 8);
        d.is("whose()", x.whose(), 1);
    }

    @Sentence(promise = 56, says = "WHOSE LAW (told: SAID, 8 at most: a figure, how many say yes, 0 .. 8 each): TEXTS "
        + "(bits) by whose says (a TEXT without it: by what is so without) all come so (as now).")
    static void allThatWasSaidMustCome(Due d) {
        TruePoll x = Polls.people(8, 5, 0);
        d.is("without TEXTS", x.whose(), 0);
        Feeder.read(x, "says 1;");
        Feeder.read(x, "says figure;");
        Feeder.read(x, "sways 2;");
        Feeder.read(x, "says figure - who;");
        d.is("without SAID", x.whose(), 15);
        x.said(8, 8);
        d.is("8 by 8", x.whose(), 15);
        x.said(0, 0);
        d.is("0 by 0", x.whose(), 2 + 8);
        x.said(1, 8);
        d.is("8 by 1", x.whose(), 2);
        x.said(1, 1);
        d.is("8 and 1 by 1", x.whose(), 0);
        x.said(NONE, NONE);
        for (int i = 1; i <= 7; i++) {
            x.said(i, 8);
        }
        d.is("8 by 1 .. 7", x.whose(), 7);
        x.said(8, 7);
        d.is("the eighth counts, too", x.whose(), 0);
    }

    @Sentence(promise = 56, says = "WHOSE LAW (bits).")
    static void figuresBeyondThePeopleCanBeSaid(Due d) {
        TruePoll x = Polls.people(1, 4, 0);
        Feeder.read(x, "says figure - 7;");
        Feeder.read(x, "says own - 4;");
        x.said(8, 1);
        d.is("1 by 8", x.whose(), 1);
        x.nudge(0, 1);
        d.is("as now", x.whose(), 3);
        x.said(7, 0);
        d.is("0 by 7", x.whose(), 1);
        x.by(1);
        d.is("whatever rules", x.whose(), 1);
        x.said(0, 8);
        d.is("8 of one", x.whose(), 0);
    }

    // ---- promises 57, 58, 59

    @Sentence(promise = 57, says = "HONEST: who says the same by all figures (bits).")
    static void theSameByAllFigures(Due d) {
        TruePoll x = Polls.ruled(8, "says if figure = 8 then 3 - who else if figure = 0 then who - 4 else 0 end end;");
        // by 8: 0, 1 and 2; by 0: 5, 6 and 7
        d.is("3 and 4", x.honest(), 8 + 16);
        TruePoll all = Polls.people(8, 5, 0);
        d.is("all by yes", all.honest(), 255);
        d.is("all by no", Polls.people(8, 4, 0).honest(), 255);
        d.is("none who go with it", Polls.people(8, 0, 1).honest(), 0);
    }

    @Sentence(promise = 57, says = "who says the same by all figures (bits).")
    static void eachFigureIsATest(Due d) {
        for (int f = 0; f <= 8; f++) {
            TruePoll x = Polls.ruled(8, "says if figure = " + f + " then 3 - who else 1 end;");
            d.is("by " + f + " alone 3 and on say no", x.honest(), 7);
            TruePoll y = Polls.ruled(8, "says if figure = " + f + " then 3 - who else 0 end;");
            d.is("by " + f + " alone 0, 1 and 2 say yes", y.honest(), 248);
        }
    }

    @Sentence(promise = 57, says = "HONEST (bits).")
    static void figuresThatCannotBeToldAreNoTest(Due d) {
        d.is("of nobody", new TruePoll().honest(), 0);
        d.is("near 9 of one", Polls.people(1, 9, 3).honest(), 1);
        d.is("near 3 of one, yes by 1", Polls.people(1, 3, 3).honest(), 0);
        d.is("near 2 of four, yes by 0 .. 4", Polls.people(4, 2, 3).honest(), 15);
        d.is("near 2 of five, no by 5", Polls.people(5, 2, 3).honest(), 0);
    }

    @Sentence(promise = 58, says = "CHANGES: how many ROUNDS by BOOK ended otherwise than told.")
    static void changesOfTheLatest30(Due d) {
        TruePoll x = Polls.ruled(4, "says if figure = 4 then 0 else figure end;");
        int[] other = new int[45];
        for (int i = 0; i < 45; i++) {
            // told 4 nobody says yes, told 0 too, but for those who draw 0
            int told = i < 8 ? 4 : 0;
            other[i] = x.tell(told) != told ? 1 : 0;
            int due = 0;
            for (int k = Math.max(0, i - 29); k <= i; k++) {
                due += other[k];
            }
            d.is("changes() behind " + (i + 1), x.changes(), due);
        }
    }

    @Sentence(promise = 58, says = "CHANGES.")
    static void changesOfNone(Due d) {
        TruePoll x = new TruePoll();
        d.is("without BOOK", x.changes(), 0);
        x.day(60);
        d.is("told 0, and 0", x.changes(), 0);
        TruePoll y = Polls.ruled(8, "says 4 - figure;");
        for (int i = 1; i <= 30; i++) {
            // told 8 nobody says yes but who draws 0, never all
            y.tell(8);
            d.is("changes()", y.changes(), i);
        }
        y.tell(8);
        d.is("30 at most", y.changes(), 30);
    }

    @Sentence(promise = 59, says = "BY THE BOOK: how often a FIGURE is written down as what was then.")
    static void howOftenAFigureWas(Due d) {
        TruePoll x = Polls.ruled(8, "says figure;");
        int[] figures = new int[45];
        for (int i = 0; i < 45; i++) {
            figures[i] = x.tell(i % 3 == 0 ? 0 : 8);
        }
        int[] often = new int[9];
        for (int i = 15; i < 45; i++) {
            often[figures[i]]++;
        }
        for (int f = 0; f <= 8; f++) {
            d.is("ledger(" + f + ") of the latest 30", x.ledger(f), often[f]);
        }
        d.yes("8 was", often[8] > 0 && often[0] > 0);
    }

    @Sentence(promise = 59, says = "BY THE BOOK.")
    static void whatWasToldAloneIsNotWhatWas(Due d) {
        TruePoll x = Polls.ruled(4, "says 0;");
        for (int f = 0; f <= 8; f++) {
            d.is("ledger(" + f + ") without BOOK", x.ledger(f), 0);
        }
        x.tell(4);
        d.is("ledger(4)", x.ledger(4), 0);
        d.is("ledger(0)", x.ledger(0), 1);
        TruePoll nobody = new TruePoll();
        nobody.day(60);
        d.is("30 at most", nobody.ledger(0), 30);
        d.is("ledger(8)", nobody.ledger(8), 0);
    }

    @Sentence(promise = 59, says = "-2 for others (0 .. 8).")
    static void otherLedgersAreMinusTwo(Due d) {
        TruePoll x = Polls.four();
        Polls.beyond(d, "ledger ahead of any ROUND", 0, 8, -2, x::ledger);
        x.day(40);
        Polls.beyond(d, "ledger", 0, 8, -2, x::ledger);
        d.is("ledger(8)", x.ledger(8), 0);
    }

    // ---- promises 60, 61, 62

    /** A poll of which all can be other than at first. */
    private static TruePoll full() {
        TruePoll x = Polls.four();
        x.hear(0, 1);
        x.hear(3, 0);
        Polls.ruled(x, "says own - 2; sways 1 - yes;");
        x.day(33);
        x.tell(2);
        x.party(2, 5);
        x.said(1, 2);
        x.village(7, 70);
        return x;
    }

    @Sentence(promise = 60, says = "THE IMAGE is as all is now: ROUND.")
    static void theImageIsAsAllIsNow(Due d) {
        TruePoll x = new TruePoll();
        d.is("image() of a new object", x.image(), 0);
        x.person(1, 1);
        x.day(5);
        d.is("image()", x.image(), 5);
        x.day(2);
        d.is("back()", x.back(), 5);
        d.is("image()", x.image(), 5);
        x.day(1);
        d.is("the latest counts", x.image(), 6);
        x.undo();
        d.is("back()", x.back(), 6);
        TruePoll y = Polls.at(9999, new TruePoll());
        d.is("image() in 9999", y.image(), 9999);
        y.undo();
        d.is("back() to 9999", y.back(), 9999);
        d.is("tell(0)", y.tell(0), NONE);
    }

    @Sentence(promise = 60, says = "AN IMAGE: all as it is, but the tape and the latest FAULT.")
    static void theTapeAndTheFaultAreNotInIt(Due d) {
        TruePoll x = new TruePoll();
        Feeder.read(x, "up 8;");
        Feeder.onTape(x, "up 1;");
        x.image();
        Feeder.read(x, "foo");
        Feeder.onTape(x, "day 1;");
        x.back();
        d.is("the tape stays", x.about(5), 6);
        d.is("the FAULT stays", x.fault(0), 1);
        d.is("its place stays", x.fault(1), 0);
        d.is("text()", x.text(), 0);
        d.is("played(0)", x.played(0), NONE);
        d.is("day 1 was on it", x.is(0), 1);
        x.back();
        d.is("the tape is empty yet", x.about(5), 0);
        d.is("no FAULT yet", x.fault(0), 0);
    }

    @Sentence(promise = 61, says = "BACK to THE IMAGE (it stays): ROUND.")
    static void theImageStays(Due d) {
        TruePoll x = full();
        d.is("image()", x.image(), 34);
        String then = Polls.imaged(x);
        for (int i = 0; i < 3; i++) {
            x.person(9, 0);
            x.day(2);
            x.party(1, 1);
            x.said(2, 2);
            d.is("back()", x.back(), 34);
        }
        d.same("as it was", Polls.imaged(x), then);
        d.is("back() at once", x.back(), 34);
        d.same("as it was", Polls.imaged(x), then);
    }

    @Sentence(promise = 61, says = "BACK: all is so again.")
    static void allIsSoAgain(Due d) {
        TruePoll x = full();
        TruePoll twin = full();
        x.image();
        String then = Polls.imaged(x);
        x.undo();
        x.undo();
        x.person(9, 3);
        x.nudge(0, 1);
        x.hear(0, 1);
        x.hear(1, 2);
        Polls.ruled(x, "says 0; sways 2;");
        x.years(3, 40);
        x.party(NONE, 0);
        x.party(1, 1);
        x.said(NONE, 0);
        x.said(2, 4);
        x.village(7, 1);
        x.village(0, 1);
        d.is("back()", x.back(), 34);
        d.same("all that can be asked", Polls.imaged(x), then);
        for (int i = 29; i >= 0; i--) {
            d.is("undo()", x.undo(), twin.undo());
            d.is("X behind it", x.is(1), twin.is(1));
            d.is("LEANS behind it", x.is(4), twin.is(4));
        }
        d.is("undo()", x.undo(), NONE);
        x.back();
        d.is("STEPS are again", x.about(3), 30);
    }

    @Sentence(promise = 61, says = "BACK: all is so again.")
    static void stepsThatWentOverTheEldestAreAgain(Due d) {
        TruePoll x = Polls.ruled(3, "says own - figure; sways 1 - yes * 2;");
        TruePoll twin = Polls.ruled(3, "says own - figure; sways 1 - yes * 2;");
        x.day(20);
        twin.day(20);
        x.image();
        // the eldest give way from the 31st STEP on, so what is kept in their stead must go again
        x.day(17);
        x.back();
        for (int i = 19; i >= 0; i--) {
            d.is("undo()", x.undo(), i);
            twin.undo();
            d.is("X behind it", x.is(1), twin.is(1));
            d.is("LEANS behind it", x.is(4), twin.is(4));
        }
        x.day(45);
        x.image();
        x.day(7);
        x.back();
        d.is("undo()", x.undo(), 29);
        d.is("ROUND", x.is(0), 44);
        d.is("undo()", x.undo(), 28);
        d.is("ROUND", x.is(0), 43);
    }

    @Sentence(promise = 61, says = "BACK: all is so again.")
    static void whatWasSaidAndWhichPartiesThereWere(Due d) {
        TruePoll x = Polls.ruled(8, "says figure - who;");
        for (int i = 0; i <= 7; i++) {
            x.said(8 - i, 8 - i);
            x.party(i, i + 1);
        }
        x.image();
        d.is("whose()", x.whose(), 1);
        x.said(NONE, 0);
        x.party(NONE, 0);
        for (int i = 0; i <= 7; i++) {
            x.said(i, 8);
            x.party(0, 8);
        }
        d.is("whose()", x.whose(), 0);
        d.is("lives(0)", x.lives(0), 8);
        x.back();
        d.is("whose()", x.whose(), 1);
        for (int f = 0; f <= 8; f++) {
            d.is("lives(" + f + ")", x.lives(f), f == 0 || f == 8 ? 1 : 2);
        }
        x.said(NONE, 0);
        x.party(NONE, 0);
        d.is("none any more", x.about(4) + x.lives(4), 0);
        for (int i = 0; i <= 7; i++) {
            x.said(i, i);
        }
        d.is("whose(), by other figures", x.whose(), 1);
        x.said(NONE, 0);
        for (int i = 0; i <= 7; i++) {
            x.said(1, i);
        }
        d.is("whose(), by other numbers", x.whose(), 0);
        x.back();
        d.is("SAID", x.about(4), 8);
        d.is("whose()", x.whose(), 1);
    }

    @Sentence(promise = 61, says = "BACK to THE IMAGE (it stays)")
    static void whatIsDoneBehindBackIsNotInTheImage(Due d) {
        TruePoll x = Polls.people(2, 4, 0);
        x.nudge(0, 1);
        x.image();
        x.back();
        x.nudge(0, 1);
        x.hear(0, 1);
        x.village(1, 1);
        x.undo();
        x.undo();
        d.is("LEAN", x.of(0, 0), 4);
        x.back();
        d.is("LEAN", x.of(0, 0), 5);
        d.is("hears nobody", x.of(0, 2), 0);
        d.is("VILLAGE 1", x.window(1, 1), 0);
        d.is("STEPS", x.about(3), 1);
        d.is("undo()", x.undo(), 0);
        d.is("LEAN", x.of(0, 0), 4);
    }

    @Sentence(promise = 62, says = "0 PEOPLE, 1 TEXTS, 2 THE TEXT (NONE), 3 STEPS that can be taken back, 4 SAID, 5 "
        + "bytes of the tape.")
    static void noneAndAllOfThem(Due d) {
        TruePoll x = new TruePoll();
        int[] first = {0, 0, NONE, 0, 0, 0};
        for (int what = 0; what <= 5; what++) {
            d.is("about(" + what + ") at first", x.about(what), first[what]);
        }
        for (int i = 0; i < 9; i++) {
            x.person(i, 0);
            x.said(i, i);
            Feeder.read(x, "says 1;");
        }
        x.by(3);
        x.day(60);
        for (int i = 0; i < 16; i++) {
            x.feed(0, 0, 0, 0, 0);
        }
        x.end(300);
        int[] most = {8, 4, 3, 30, 8};
        for (int what = 0; what <= 4; what++) {
            d.is("about(" + what + ") at most", x.about(what), most[what]);
        }
        // the seven bytes of the text that was not read, and twenties behind them
        d.is("about(5)", x.about(5), 287);
        x.end(0);
        for (int i = 0; i < 16; i++) {
            x.feed(0, 0, 0, 0, 0);
        }
        d.is("about(5) at most", x.about(5), 300);
    }

    @Sentence(promise = 62, says = "-2 for others.")
    static void aboutOthersIsMinusTwo(Due d) {
        Polls.beyond(d, "about of a new object", 0, 5, -2, new TruePoll()::about);
        Polls.beyond(d, "about of a full one", 0, 5, -2, full()::about);
    }
}
