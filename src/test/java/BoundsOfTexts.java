/** Promises 4 to 8 and 12: the tape, TEXTS, their FAULTS, what rules and what is PLAYED. */
final class BoundsOfTexts {
    private static final int NONE = Polls.NONE;

    private BoundsOfTexts() {
    }

    private static void faulty(Due d, String text, int kind, int place) {
        TruePoll x = new TruePoll();
        d.is("text() of " + text, Feeder.read(x, text), NONE);
        d.is("fault(0) of " + text, x.fault(0), kind);
        d.is("fault(1) of " + text, x.fault(1), place);
        d.is("TEXTS", x.about(1), 0);
    }

    private static void sound(Due d, String text) {
        TruePoll x = new TruePoll();
        d.is("text() of " + text, Feeder.read(x, text), 0);
        d.is("fault(0) of " + text, x.fault(0), 0);
        d.is("fault(1) of " + text, x.fault(1), NONE);
        d.is("TEXTS", x.about(1), 1);
    }

    private static String times(int many, String part) {
        return part.repeat(many);
    }

    /** Three PEOPLE of LEANS 2, 9 and 7 and SORTS 3, 1 and 2, of whom 1 and 2 said yes, 2 hearing both others. */
    private static TruePoll three() {
        TruePoll x = new TruePoll();
        x.person(2, 3);
        x.person(9, 1);
        x.person(7, 2);
        x.hear(2, 0);
        x.hear(2, 1);
        Polls.ruled(x, "says who;");
        x.tell(0);
        return x;
    }

    /** What a SUM comes to where PERSON 2 of three is asked, told 3. */
    private static void worth(Due d, String sum, int want) {
        TruePoll x = three();
        Polls.ruled(x, "says if " + sum + "=" + want + "then 1else 0end;");
        d.yes(sum + " is " + want, x.says(2, 3));
        Polls.ruled(x, "says if " + sum + "#" + want + "then 1else 0end;");
        d.no(sum + " is not " + want, x.says(2, 3));
    }

    // ---- promise 4

    @Sentence(promise = 4, says = "Twenty bytes come behind the tape, the highest of a first: how many it has.")
    static void bytesComeInTheirOrder(Due d) {
        TruePoll x = new TruePoll();
        // "person 7sort 3;up 0;"
        d.is("feed", x.feed(0x70657273, 0x6f6e2037, 0x736f7274, 0x20333b75, 0x7020303b), 20);
        d.is("text()", x.text(), 0);
        d.is("played(0)", x.played(0), NONE);
        d.is("LEAN", x.of(0, 0), 8);
        d.is("SORT", x.of(0, 1), 3);
        for (int i = 1; i <= 15; i++) {
            d.is("feed " + i, x.feed(0, -1, Polls.LOW, Polls.HIGH, i), i * 20);
            d.is("about(5)", x.about(5), i * 20);
        }
    }

    @Sentence(promise = 4, says = "Twenty bytes come behind the tape")
    static void bytesAbove127AreNoTokens(Due d) {
        for (int b : new int[] {128, 129, 160, 188, 200, 254, 255}) {
            TruePoll x = new TruePoll();
            x.feed(b << 24 | 0x202020, 0, 0, 0, 0);
            x.end(4);
            d.is("text() of a byte " + b, x.text(), NONE);
            d.is("fault(1)", x.fault(1), 0);
            x.feed(0x20202000 | b, 0, 0, 0, 0);
            x.end(4);
            d.is("text() of a byte " + b, x.text(), NONE);
            d.is("fault(1)", x.fault(1), 3);
        }
    }

    @Sentence(promise = 4, says = "NONE, and none come, if there would be more than 300.")
    static void noneComeBeyond300(Due d) {
        TruePoll x = new TruePoll();
        for (int i = 1; i <= 15; i++) {
            x.feed(0x20202020, 0x20202020, 0x20202020, 0x20202020, 0x20202020);
        }
        d.is("of 300 bytes", x.feed(0, 0, 0, 0, 0), NONE);
        d.is("about(5)", x.about(5), 300);
        for (int n = 299; n >= 281; n--) {
            x.end(n);
            d.is("of " + n + " bytes", x.feed(0, 0, 0, 0, 0), NONE);
            d.is("about(5)", x.about(5), n);
        }
        d.is("text() of blanks: no byte 0 came", x.text(), 0);
        for (int i = 1; i <= 15; i++) {
            x.feed(0, 0, 0, 0, 0);
        }
        x.end(280);
        d.is("of 280 bytes", x.feed(0, 0, 0, 0, 0), 300);
    }

    // ---- promise 5

    @Sentence(promise = 5, says = "The tape has its first n bytes alone: n.")
    static void whatIsBehindTheEndIsGone(Due d) {
        TruePoll x = new TruePoll();
        Feeder.onTape(x, "up 1;down 2;tell 3;;");
        d.is("end(20)", x.end(20), 20);
        d.is("end(5)", x.end(5), 5);
        d.is("about(5)", x.about(5), 5);
        d.is("end(6)", x.end(6), NONE);
        // "day 2;" comes just behind the first five bytes
        d.is("feed", x.feed(0x64617920, 0x323b7878, 0, 0, 0), 25);
        d.is("end(11)", x.end(11), 11);
        d.is("text()", x.text(), 0);
        x.person(1, 0);
        x.person(1, 0);
        d.is("played(0): up 1, day 2", x.played(0), NONE);
        d.is("ROUND", x.is(0), 2);
        d.is("LEAN", x.of(1, 0), 2);
        Feeder.onTape(x, "up 8");
        d.is("end(0)", x.end(0), 0);
        d.is("text() of nothing", x.text(), 1);
    }

    @Sentence(promise = 5, says = "The tape has its first n bytes alone: n.")
    static void noTokenGoesBeyondTheEnd(Due d) {
        String[] texts = {"up 15;", "says owns;", "says if 1<=2", "says 1   ;", "up 1; foo"};
        int[] ends = {4, 8, 10, 8, 5};
        int[] places = {4, 8, 10, 8, NONE};
        for (int i = 0; i < texts.length; i++) {
            TruePoll x = new TruePoll();
            Feeder.onTape(x, texts[i]);
            x.end(ends[i]);
            d.is("text() of " + ends[i] + " bytes of " + texts[i], x.text(), places[i] == NONE ? 0 : NONE);
            d.is("fault(1)", x.fault(1), places[i]);
        }
    }

    @Sentence(promise = 5, says = "NONE, and nothing is done, if it has not so many, or n is below 0.")
    static void theTapeHasNotSoMany(Due d) {
        TruePoll x = new TruePoll();
        d.is("end(0) of none", x.end(0), 0);
        Polls.beyond(d, "end of none", 0, 0, NONE, x::end);
        Feeder.onTape(x, times(60, "up 0;"));
        d.is("end(300) of 300", x.end(300), 300);
        Polls.beyond(d, "end of 300", 0, 300, NONE, x::end);
        d.is("about(5)", x.about(5), 300);
        x.end(7);
        String ahead = Polls.seen(x);
        Polls.beyond(d, "end of 7", 0, 7, NONE, x::end);
        d.same("nothing is done", Polls.seen(x), ahead);
        d.is("end(7)", x.end(7), 7);
    }

    // ---- promise 6

    @Sentence(promise = 6, says = "TEXTS 0 .. 3: of up to 300 bytes.")
    static void fourTextsOf300Bytes(Due d) {
        TruePoll x = new TruePoll();
        String full = "says 1" + times(146, "+1") + " ;";
        d.is("its bytes", full.length(), 300);
        for (int t = 0; t <= 3; t++) {
            d.is("text()", Feeder.read(x, full), t);
            d.is("about(1)", x.about(1), t + 1);
        }
        x.person(0, 0);
        x.by(3);
        d.yes("147 is above 0", x.says(0, 0));
        faulty(d, times(150, "; "), 1, 0);
        faulty(d, "says 1" + times(146, "+1") + "  ", 1, 300);
        faulty(d, times(299, " ") + "x", 1, 299);
    }

    @Sentence(promise = 6, says = "The tape (empty then) is a TEXT: its number.")
    static void theTapeIsEmptyThen(Due d) {
        TruePoll x = new TruePoll();
        d.is("text() of nothing", x.text(), 0);
        Feeder.onTape(x, "up 0;");
        d.is("about(5)", x.about(5), 5);
        d.is("text()", x.text(), 1);
        d.is("about(5)", x.about(5), 0);
        d.is("end(1)", x.end(1), NONE);
        d.is("text() of nothing", x.text(), 2);
        Feeder.onTape(x, "up 8;");
        d.is("text() with a FAULT", x.text(), NONE);
        d.is("about(5) behind a FAULT", x.about(5), 0);
    }

    @Sentence(promise = 6, says = "NONE: it has a FAULT; or (the tape stays) there are 4.")
    static void aFifthIsNone(Due d) {
        TruePoll x = new TruePoll();
        for (int t = 0; t <= 3; t++) {
            d.is("text() with a FAULT", Feeder.read(x, "tell 9;"), NONE);
            d.is("text() without", Feeder.read(x, "tell 8;"), t);
        }
        Feeder.onTape(x, "tell 7;");
        d.is("a fifth", x.text(), NONE);
        d.is("the tape stays", x.about(5), 7);
        d.is("TEXTS", x.about(1), 4);
        d.is("a fifth, once more", x.text(), NONE);
        d.is("the tape stays", x.about(5), 7);
        x.back();
        d.is("when there are none any more", x.text(), 0);
        d.is("the tape is empty", x.about(5), 0);
    }

    @Sentence(promise = 6, says = "TOKENS, blanks (32, 10) aside")
    static void blanksAreTwo(Due d) {
        sound(d, " \n says\n1 + \n\n 2 ; \n");
        sound(d, "\n");
        for (char none : new char[] {0, 1, 9, 11, 12, 13, 31, 33, 127, 133, 160}) {
            faulty(d, "says" + none + "1;", 1, 4);
            faulty(d, "says 1;" + none, 1, 7);
        }
        faulty(d, "sa ys 1;", 1, 0);
        faulty(d, "says 1 2;", 1, 7);
        faulty(d, "says if 1 < = 2 then 1 else 2 end;", 1, 12);
    }

    @Sentence(promise = 6, says = "letters a .. z, A .. Z one behind the other (one TOKEN)")
    static void wordsAreOfLetters(Due d) {
        for (char letter : new char[] {'a', 'z', 'A', 'Z', 'm', 'M'}) {
            faulty(d, "says" + letter + " 1;", 1, 0);
            faulty(d, letter + "says 1;", 1, 0);
        }
        for (char none : new char[] {'@', '[', '`', '{', '_'}) {
            faulty(d, "says" + none + "1;", 1, 4);
        }
        faulty(d, "SAYS 1;", 1, 0);
        faulty(d, "says Own;", 1, 5);
        faulty(d, "saysways 1;", 1, 0);
        faulty(d, "says ownown;", 1, 5);
        sound(d, "says1;sways2;up3;");
    }

    @Sentence(promise = 6, says = "digits likewise (NUMBERS, 0 .. 9999)")
    static void numbersAreOfDigits(Due d) {
        worth(d, "0", 0);
        worth(d, "9", 9);
        worth(d, "10", 10);
        worth(d, "9999", 9999);
        worth(d, "0009999", 9999);
        worth(d, "00000000000000000000000000000000007", 7);
        faulty(d, "says 10000;", 2, 5);
        faulty(d, "says 0010000;", 2, 5);
        faulty(d, "says 4294967296;", 2, 5);
        faulty(d, "says 4294967297;", 2, 5);
        faulty(d, "says 18446744073709551617;", 2, 5);
        faulty(d, "says " + times(294, "9") + ";", 2, 5);
        faulty(d, "says 1:2;", 1, 6);
        faulty(d, "says 1.2;", 1, 6);
        sound(d, "says 1/2;");
    }

    @Sentence(promise = 6, says = "<= >= < > = # + - * / ( ) ; (the longest)")
    static void theLongestSignIsRead(Due d) {
        for (String sign : new String[] {"<=", ">=", "<", ">", "=", "#"}) {
            sound(d, "says if 1" + sign + "2then(1+2)*3/4-5else 0end;");
        }
        faulty(d, "says if 1=<2 then 1 else 2 end;", 1, 10);
        faulty(d, "says if 1=>2 then 1 else 2 end;", 1, 10);
        faulty(d, "says if 1<>2 then 1 else 2 end;", 1, 10);
        faulty(d, "says if 1<==2 then 1 else 2 end;", 1, 11);
        faulty(d, "says if 1==2 then 1 else 2 end;", 1, 10);
        faulty(d, "says if 1<", 1, 10);
        faulty(d, "says if 1<=", 1, 11);
        for (String none : new String[] {"!", "\"", "$", "%", "&", "'", ",", ".", ":", "?", "\\", "^", "|", "}", "~"}) {
            faulty(d, "says 1 " + none + " 2;", 1, 7);
        }
    }

    @Sentence(promise = 6, says = "{CLAUSE}, 24 at most")
    static void twentyFourClausesAtMost(Due d) {
        sound(d, "");
        sound(d, times(23, "up 0;"));
        sound(d, times(24, "up 0;"));
        sound(d, times(22, "up 0;") + "says 1;sways 1;");
        sound(d, times(24, "up 0;") + " \n");
        faulty(d, times(25, "up 0;"), 6, 120);
        faulty(d, times(60, "up 0;"), 6, 120);
    }

    @Sentence(promise = 6, says = "says SUM ; or sways SUM ; (each once) or person NUMBER sort NUMBER ; (LEAN) or "
        + "hear NUMBER from NUMBER ; (who, whom) or tell NUMBER ; or up NUMBER ; or down NUMBER ; (a PERSON NUDGED by "
        + "1, -1) or day NUMBER ;")
    static void eachClauseIsDoneOnce(Due d) {
        TruePoll x = new TruePoll();
        d.is("text()", Feeder.read(x,
            "person 9 sort 2;person 0 sort 3;hear 1 from 0;down 0;up 1;tell 2;day 3;sways 2;says 1;"), 0);
        d.is("played(0)", x.played(0), NONE);
        d.is("LEAN of 0", x.of(0, 0), 8);
        d.is("SORT of 0", x.of(0, 1), 2);
        d.is("LEAN of 1", x.of(1, 0), 1);
        d.is("SORT of 1", x.of(1, 1), 3);
        d.is("1 hears 0", x.of(1, 2), 1);
        d.is("0 hears nobody", x.of(0, 2), 0);
        d.is("told 2", x.book(0, 1), 2);
        d.is("ROUND", x.is(0), 4);
        d.is("STEPS", x.about(3), 6);
    }

    @Sentence(promise = 6, says = "SUM: PRODUCT {+ or - PRODUCT}.")
    static void sumsAreOfProducts(Due d) {
        worth(d, "1 + 2 * 3 - 4 / 2", 5);
        worth(d, "2 - 1 + 3", 4);
        faulty(d, "says ;", 1, 5);
        faulty(d, "says + 1;", 1, 5);
        faulty(d, "says 1 + ;", 1, 9);
    }

    @Sentence(promise = 6, says = "PRODUCT: ONE {* or / ONE}.")
    static void productsAreOfOnes(Due d) {
        worth(d, "2 * 3 / 4 * 5", 5);
        worth(d, "2 * -3", -6);
        faulty(d, "says * 1;", 1, 5);
        faulty(d, "says 1 / ;", 1, 9);
        faulty(d, "says 1 * / 1;", 1, 9);
    }

    @Sentence(promise = 6, says = "ONE: NUMBER, NAME, ( SUM ), - ONE, lean ONE (LEAN of the PERSON of that number; 0 "
        + "for others)")
    static void leanOfOthersIs0(Due d) {
        worth(d, "lean 0", 2);
        worth(d, "lean 1", 9);
        worth(d, "lean 2", 7);
        for (String other : new String[] {"3", "7", "8", "9", "31", "32", "33", "34", "64", "256", "9999", "-1", "-2",
            "-32", "-9999", "(9999 * 9999)", "(-9999 * 9999)"}) {
            worth(d, "lean " + other, 0);
        }
        worth(d, "lean 0 + 1", 3);
        worth(d, "lean (0 + 1)", 9);
        worth(d, "lean -0", 2);
        worth(d, "-lean 1 * 2", -18);
        worth(d, "lean lean 0", 7);
        TruePoll x = Polls.ruled(8, "says lean 7 + lean 8;");
        x.nudge(7, -5);
        d.no("of eight the last is 7", x.says(0, 0));
    }

    @Sentence(promise = 6, says = "said ONE (1, if the PERSON of that number said yes latest, else 0)")
    static void saidOfOthersIs0(Due d) {
        worth(d, "said 0", 0);
        worth(d, "said 1", 1);
        worth(d, "said 2", 1);
        for (String other : new String[] {"3", "7", "8", "31", "32", "33", "34", "64", "65", "66", "9999", "-1",
            "-30", "-31", "-62", "(9999 * 9999)", "(-9999 * 9999)"}) {
            worth(d, "said " + other, 0);
        }
        worth(d, "said 1 + 1", 2);
        worth(d, "said (1 + 1)", 1);
        worth(d, "said (1 - 1)", 0);
        worth(d, "said said 1", 1);
        TruePoll x = Polls.ruled(2, "says said 0;");
        d.no("ahead of any ROUND nobody did", x.says(1, 0));
    }

    @Sentence(promise = 6, says = "if EITHER then SUM else SUM end.")
    static void ifHasTwoSums(Due d) {
        worth(d, "if 1 = 1 then 2 + 3 else 4 * 5 end", 5);
        worth(d, "if 1 = 2 then 2 + 3 else 4 * 5 end", 20);
        worth(d, "3 * if 1 = 1 then 2 else 4 end + 1", 7);
        faulty(d, "says if 1 = 1 then 2 end;", 1, 21);
        faulty(d, "says if 1 = 1 then else 2 end;", 1, 19);
        faulty(d, "says if 1 = 1 else 2 end;", 1, 14);
        faulty(d, "says if then 1 else 2 end;", 1, 8);
        faulty(d, "says if 1 = 1 then 1 else 2;", 1, 27);
        faulty(d, "says if 1 then 1 else 2 end;", 1, 10);
    }

    @Sentence(promise = 6, says = "EITHER: BOTH {or BOTH}.")
    static void eitherIsAnyOfThem(Due d) {
        worth(d, "if 1 = 2 or 1 = 2 then 1 else 0 end", 0);
        worth(d, "if 1 = 2 or 1 = 1 then 1 else 0 end", 1);
        worth(d, "if 1 = 1 or 1 = 2 then 1 else 0 end", 1);
        worth(d, "if 1 = 1 or 1 = 1 then 1 else 0 end", 1);
        worth(d, "if 1 = 2 or 1 = 2 or 1 = 1 then 1 else 0 end", 1);
        worth(d, "if 1 = 1 or 1 = 2 and 1 = 2 then 1 else 0 end", 1);
        faulty(d, "says if 1 = 1 or then 1 else 2 end;", 1, 17);
    }

    @Sentence(promise = 6, says = "BOTH: ASK {and ASK}.")
    static void bothAreAllOfThem(Due d) {
        worth(d, "if 1 = 2 and 1 = 2 then 1 else 0 end", 0);
        worth(d, "if 1 = 2 and 1 = 1 then 1 else 0 end", 0);
        worth(d, "if 1 = 1 and 1 = 2 then 1 else 0 end", 0);
        worth(d, "if 1 = 1 and 1 = 1 then 1 else 0 end", 1);
        worth(d, "if 1 = 1 and 1 = 1 and 1 = 2 then 1 else 0 end", 0);
        faulty(d, "says if 1 = 1 and then 1 else 2 end;", 1, 18);
    }

    @Sentence(promise = 6, says = "ASK: not ASK, or SUM one of < <= > >= = # (unlike) SUM.")
    static void eachWayToAsk(Due d) {
        String[] how = {"<", "<=", ">", ">=", "=", "#"};
        int[][] due = {{1, 0, 0}, {1, 1, 0}, {0, 0, 1}, {0, 1, 1}, {0, 1, 0}, {1, 0, 1}};
        for (int i = 0; i < how.length; i++) {
            for (int n = 1; n <= 3; n++) {
                worth(d, "if " + n + how[i] + "2 then 1 else 0 end", due[i][n - 1]);
                worth(d, "if not " + n + how[i] + "2 then 1 else 0 end", 1 - due[i][n - 1]);
            }
        }
        worth(d, "if not not 1 = 1 then 1 else 0 end", 1);
        worth(d, "if not 1 = 2 and 1 = 2 then 1 else 0 end", 0);
        faulty(d, "says if 1 = 1 = 1 then 1 else 2 end;", 1, 14);
        faulty(d, "says if not then 1 else 2 end;", 1, 12);
    }

    @Sentence(promise = 6, says = "NAMES: round, who, own (its LEAN), sort, people (how many there are), heard (of "
        + "those it hears how many said yes latest), figure (that is told) in both; yes (1, if it says yes, else 0) "
        + "in sways.")
    static void eachNameInBoth(Due d) {
        worth(d, "round", 1);
        worth(d, "who", 2);
        worth(d, "own", 7);
        worth(d, "sort", 2);
        worth(d, "people", 3);
        worth(d, "heard", 1);
        worth(d, "figure", 3);
        String all = "round + who + own + sort + people + heard + figure";
        TruePoll x = Polls.ruled(1, "sways 2 * yes - 1 + 0 * (" + all + ");");
        d.is("yes of yes", x.of(0, 4), 1);
        d.is("yes of no", x.of(0, 5), -1);
        for (int sort = 0; sort <= 3; sort++) {
            TruePoll one = Polls.ruled(Polls.leaning(sort, 5), "sways sort - 1;");
            d.is("sort " + sort, one.of(0, 4), sort - 1);
        }
        // nothing is said yet: 0, PERSON 0 of LEAN 5 and SORT 0, 1 of all, none heard, the FIGURE 0
        TruePoll y = Polls.ruled(1, "sways " + all + " - 5;");
        d.is("in sways", y.of(0, 4), 1);
        TruePoll z = Polls.at(9999, new TruePoll());
        z.person(0, 0);
        Polls.ruled(z, "says round - 9998;");
        d.yes("the last ROUND", z.says(0, 0));
    }

    @Sentence(promise = 6, says = "From the left; / cuts towards 0, by 0 it is 0;")
    static void quotientsAreCutTowards0(Due d) {
        worth(d, "10 - 4 - 3", 3);
        worth(d, "100 / 7 / 2", 7);
        worth(d, "7 / 2 * 2", 6);
        worth(d, "7 / 2", 3);
        worth(d, "-7 / 2", -3);
        worth(d, "7 / -2", -3);
        worth(d, "-7 / -2", 3);
        worth(d, "1 / 2", 0);
        worth(d, "-1 / 2", 0);
        worth(d, "7 / 0", 0);
        worth(d, "-7 / 0", 0);
        worth(d, "0 / 0", 0);
        worth(d, "7 / (2 - 2) + 5", 5);
    }

    @Sentence(promise = 6, says = "what is above 1000000 (below the same less) is that, at each step.")
    static void aMillionIsTheMost(Due d) {
        worth(d, "999 * 1001 + 0 - 999 * 1001", 0);
        worth(d, "999 * 1001 + 1 - 999 * 1001", 1);
        worth(d, "999 * 1001 + 2 - 999 * 1001", 1);
        worth(d, "1000 * 1000 - 999 * 1001", 1);
        worth(d, "1000 * 1001 - 999 * 1001", 1);
        worth(d, "9999 * 9999 * 9999 - 999 * 1001", 1);
        worth(d, "-9999 * -9999 - 999 * 1001", 1);
        worth(d, "9999 * 9999 + 1 - 1 - 999 * 1001", 0);
        worth(d, "9999 * 9999 / 9999", 100);
        worth(d, "9999 * 9999 - 9999 * 9999 + 5", 5);
    }

    @Sentence(promise = 6, says = "(below the same less) is that, at each step.")
    static void aMillionLessIsTheLeast(Due d) {
        worth(d, "-999 * 1001 - 0 + 999 * 1001", 0);
        worth(d, "-999 * 1001 - 1 + 999 * 1001", -1);
        worth(d, "-999 * 1001 - 2 + 999 * 1001", -1);
        worth(d, "-1000 * 1000 + 999 * 1001", -1);
        worth(d, "-1000 * 1001 + 999 * 1001", -1);
        worth(d, "9999 * -9999 * 9999 + 999 * 1001", -1);
        worth(d, "-(9999 * 9999) + 999 * 1001", -1);
        worth(d, "-9999 * 9999 - 1 + 1 + 999 * 1001", 0);
        worth(d, "-9999 * 9999 / 9999", -100);
    }

    @Sentence(promise = 6, says = "or and and look at both sides always, of if just the SUM that is chosen is asked.")
    static void whatIsNotChosenHasNoSay(Due d) {
        worth(d, "if 1 = 1 then 7 else 1 / 0 end", 7);
        worth(d, "if 1 = 2 then 9999 * 9999 else -7 end", -7);
        worth(d, "if 1 = 1 or 1 / 0 = 1 then 7 else 8 end", 7);
        worth(d, "if 1 = 2 and 1 / 0 = 0 then 7 else 8 end", 8);
        worth(d, "1 + if 1 = 1 then if 1 = 2 then 1 else 2 end else if 1 = 1 then 3 else 4 end end * 10", 21);
        // as much as can be begun and wait for what is asked inside: each level comes to 1 + 1 * 1
        worth(d, times(7, "1+1*if 1=1or 1=1and 1=") + "1" + times(7, "then 1else 0end "), 2);
        worth(d, times(7, "1+2*if 1=2or 1=1and 3=") + "3" + times(7, "then 1else 0end "), 3);
    }

    // ---- promise 7

    @Sentence(promise = 7, says = "Of the latest text that was read: 0 its FAULT (0 without), 1 its place (NONE "
        + "without).")
    static void theLatestThatWasRead(Due d) {
        TruePoll x = new TruePoll();
        Feeder.read(x, "up 0;tell 9;");
        d.is("fault(0)", x.fault(0), 2);
        d.is("fault(1)", x.fault(1), 10);
        Feeder.onTape(x, "foo");
        d.is("fault(0) ahead of text()", x.fault(0), 2);
        d.is("text()", x.text(), NONE);
        d.is("fault(0)", x.fault(0), 1);
        d.is("fault(1): a place, though the first", x.fault(1), 0);
        Feeder.read(x, "up 0;");
        d.is("fault(0) without", x.fault(0), 0);
        d.is("fault(1) without", x.fault(1), NONE);
        Feeder.read(x, "says 1;says 1;");
        for (int t = 1; t <= 3; t++) {
            d.is("fault(0)", x.fault(0), t == 1 ? 4 : 0);
            Feeder.read(x, "");
        }
        Feeder.read(x, "foo");
        d.is("a fifth is not read: fault(0)", x.fault(0), 0);
        d.is("a fifth is not read: fault(1)", x.fault(1), NONE);
        x.back();
        d.is("text()", x.text(), NONE);
        x.back();
        d.is("BACK leaves it: fault(0)", x.fault(0), 1);
    }

    @Sentence(promise = 7, says = "NONE for others, and ahead of any.")
    static void otherFaultsAreNone(Due d) {
        TruePoll x = new TruePoll();
        d.is("fault(0) ahead of any", x.fault(0), NONE);
        d.is("fault(1) ahead of any", x.fault(1), NONE);
        Feeder.onTape(x, "foo");
        d.is("fault(0) of a tape alone", x.fault(0), NONE);
        x.text();
        Polls.beyond(d, "fault", 0, 1, NONE, x::fault);
        d.is("fault(0)", x.fault(0), 1);
        d.is("fault(1)", x.fault(1), 0);
    }

    @Sentence(promise = 7, says = "FAULTS, the first as TOKENS are come to, at the TOKEN's first byte (of the end at "
        + "the length), of one the least")
    static void theFirstAndOfOneTheLeast(Due d) {
        faulty(d, "up 8; says yes; foo", 2, 3);
        faulty(d, "says yes; up 8;", 5, 5);
        faulty(d, "up 1 foo 99999", 1, 5);
        faulty(d, "up 12345678;", 2, 3);
        faulty(d, "up", 1, 2);
        faulty(d, "up ", 1, 3);
        faulty(d, "up 1\n\n ", 1, 7);
        // the 25th CLAUSE, which also can't stand or comes for the second time
        faulty(d, times(24, "up 0;") + "else", 1, 120);
        faulty(d, "says 1;" + times(23, "up 0;") + "says 1;", 4, 122);
        faulty(d, "says 1;" + times(23, "up 0;") + "sways 1;", 6, 122);
        // a NUMBER above 9999, a NAME of sways alone and a ninth that is open, none of which can stand there
        faulty(d, "says 1 10000;", 1, 7);
        faulty(d, "10000", 1, 0);
        faulty(d, "up yes;", 1, 3);
        faulty(d, "says 1 yes;", 1, 7);
        faulty(d, "says ((((((((not 1", 1, 13);
        faulty(d, "says ((((((((1(", 1, 14);
        faulty(d, "says ((((((((1 lean 1", 1, 15);
        faulty(d, "says ((((((((1 if 1", 1, 15);
    }

    @Sentence(promise = 7, says = "1 it can't stand there, or is none.")
    static void itCannotStandThere(Due d) {
        for (String word : new String[] {"sort", "from", "lean", "said", "if", "then", "else", "end", "or", "and",
            "not", "round", "who", "own", "people", "heard", "figure", "yes", "7", ";", "(", "foo", "!"}) {
            faulty(d, word + " 1;", 1, 0);
            faulty(d, "up 1;" + word + " 1;", 1, 5);
        }
        for (String word : new String[] {"says", "sways", "person", "hear", "from", "tell", "up", "down", "day",
            "then", "else", "end", "or", "and", "not", "*", "/", "+", "<", "=", ")", ";", "foo", "?"}) {
            faulty(d, "says " + word + ";", 1, 5);
            faulty(d, "sways (" + word + ");", 1, 7);
        }
        faulty(d, "person sort 1;", 1, 7);
        faulty(d, "person 1;", 1, 8);
        faulty(d, "person 1 sort;", 1, 13);
        faulty(d, "hear 1 sort 2;", 1, 7);
        faulty(d, "hear 1 from;", 1, 11);
        faulty(d, "tell -1;", 1, 5);
        faulty(d, "tell (1);", 1, 5);
        faulty(d, "day own;", 1, 4);
        faulty(d, "up 1", 1, 4);
        faulty(d, "up 1,", 1, 4);
    }

    @Sentence(promise = 7, says = "1 it can't stand there, or is none.")
    static void bytesOfNoTokenStandNowhere(Due d) {
        String ofTokens = " \n<>=#+-*/();";
        for (char b = 0; b < 256; b++) {
            boolean letter = b >= 'a' && b <= 'z' || b >= 'A' && b <= 'Z';
            boolean digit = b >= '0' && b <= '9';
            if (letter || digit || ofTokens.indexOf(b) >= 0) {
                continue;
            }
            faulty(d, b + "up 1;", 1, 0);
            faulty(d, "says " + b + "1;", 1, 5);
            faulty(d, "says 1" + b + "2;", 1, 6);
            faulty(d, "says if 1" + b + "2 then 3 else 4 end;", 1, 9);
            faulty(d, "up 1;" + b, 1, 5);
        }
    }

    @Sentence(promise = 7, says = "2 a NUMBER that isn't one of those told (above 9999; LEAN 0 .. 9, SORT 0 .. 3, "
        + "PEOPLE 0 .. 7, figures 0 .. 8, ROUNDS 1 .. 60).")
    static void numbersThatAreNotTold(Due d) {
        String[] ahead = {"person ", "person 9 sort ", "hear ", "hear 7 from ", "tell ", "up ", "down ", "day "};
        String[] behind = {" sort 3;", ";", " from 7;", ";", ";", ";", ";", ";"};
        int[] low = {0, 0, 0, 0, 0, 0, 0, 1};
        int[] high = {9, 3, 7, 7, 8, 7, 7, 60};
        for (int i = 0; i < ahead.length; i++) {
            sound(d, ahead[i] + low[i] + behind[i]);
            sound(d, ahead[i] + "00" + high[i] + behind[i]);
            faulty(d, ahead[i] + (high[i] + 1) + behind[i], 2, ahead[i].length());
            faulty(d, ahead[i] + "9999" + behind[i], 2, ahead[i].length());
            faulty(d, ahead[i] + "10000" + behind[i], 2, ahead[i].length());
            faulty(d, ahead[i] + "4294967297" + behind[i], 2, ahead[i].length());
        }
        faulty(d, "day 0;", 2, 4);
        faulty(d, "day 000;", 2, 4);
        sound(d, "says 9999;");
        faulty(d, "says 10000;", 2, 5);
        faulty(d, "says 1 + lean 10000;", 2, 14);
    }

    @Sentence(promise = 7, says = "3 the 9th of ( not lean said if and - (of one ONE) that are open around one "
        + "another (at it).")
    static void eightCanBeOpen(Due d) {
        for (String one : new String[] {"(", "-", "lean ", "said "}) {
            String closing = one.equals("(") ? ")" : "";
            sound(d, "says " + times(8, one) + "1" + times(8, closing) + ";");
            faulty(d, "says " + times(9, one) + "1" + times(9, closing) + ";", 3, 5 + 8 * one.length());
            // what is closed is not open any more
            String eight = times(8, one) + "1" + times(8, closing);
            sound(d, "says " + eight + " + " + eight + " - " + eight + " * " + eight + ";");
        }
        sound(d, "says " + times(8, "if 1=1then 1else ") + "1" + times(8, " end") + ";");
        faulty(d, "says " + times(9, "if 1=1then 1else ") + "1" + times(9, " end") + ";", 3, 5 + 8 * 17);
        faulty(d, "says " + times(9, "if 1=1then "), 3, 5 + 8 * 11);
        faulty(d, "says " + times(9, "if "), 3, 5 + 8 * 3);
        sound(d, "sways ((((((((yes))))))));");
        faulty(d, "sways (((((((((yes)))))))));", 3, 14);
        sound(d, "says ((((((((1))))))));sways --------1;");
        faulty(d, "says ((((((((1))))))));sways ---------1;", 3, 37);
        sound(d, "says if " + times(7, "not ") + "1 = 1 then 1 else 0 end;");
        faulty(d, "says if " + times(8, "not ") + "1 = 1 then 1 else 0 end;", 3, 8 + 7 * 4);
    }

    @Sentence(promise = 7, says = "that are open around one another (at it)")
    static void openAroundOneAnother(Due d) {
        // an if is open in all its parts and closed by its end; a not is closed behind its ASK
        for (String part : new String[] {"if %s = 1 then 1 else 1 end", "if 1 = %s then 1 else 1 end",
            "if 1 = 1 then %s else 1 end", "if 1 = 1 then 1 else %s end",
            "if 1 = 1 or 1 = 1 and %s = 1 then 1 else 1 end"}) {
            sound(d, "says " + part.replace("%s", "(((((((1)))))))") + ";");
            faulty(d, "says " + part.replace("%s", "((((((((1))))))))") + ";", 3, 5 + part.indexOf('%') + 7);
        }
        sound(d, "says if 1 = 1 then 1 else 1 end + ((((((((1))))))));");
        sound(d, "says if not 1 = 1 and (((((((1))))))) = 1 then 1 else 1 end;");
        faulty(d, "says if not ((((((( 1", 3, 18);
        sound(d, "says -(lean said (-(lean 1)));");
        faulty(d, "says -(lean said (-(lean said 1", 3, 25);
        sound(d, "says -1 - -1 - -1 - -1 - -1 - -1 - -1 - -1 - -1 - -1;");
        sound(d, "says ((((((((1 - 1 - 1 - 1))))))));");
        faulty(d, "says ((((((((1 - -", 3, 17);
        faulty(d, "says lean ((((((((1", 3, 17);
    }

    @Sentence(promise = 7, says = "4 says, sways for the second time (at it).")
    static void lawsForTheSecondTime(Due d) {
        sound(d, "says 1;sways 1;");
        sound(d, "sways 1;says 1;");
        faulty(d, "says 1;says 1;", 4, 7);
        faulty(d, "sways 1; sways 1;", 4, 9);
        faulty(d, "says 1;sways 1;up 0; says", 4, 21);
        faulty(d, "says 1;sways 1;up 0; sways", 4, 21);
        faulty(d, "says says 1;", 1, 5);
        faulty(d, "says 1 says 1;", 1, 7);
        TruePoll x = new TruePoll();
        Feeder.read(x, "says 1;");
        d.is("once in each TEXT", Feeder.read(x, "says 2;"), 1);
    }

    @Sentence(promise = 7, says = "5 a NAME that isn't of that CLAUSE (at it).")
    static void namesOfAnotherClause(Due d) {
        faulty(d, "says yes;", 5, 5);
        faulty(d, "says 1 + lean (2 * yes);", 5, 19);
        faulty(d, "says if yes = 1 then 1 else 0 end;", 5, 8);
        faulty(d, "sways yes; says yes;", 5, 16);
        faulty(d, "says ((((((((yes", 5, 13);
        sound(d, "sways yes; says figure;");
        sound(d, "says 1; sways lean yes;");
    }

    @Sentence(promise = 7, says = "6 the 25th CLAUSE (at its first TOKEN).")
    static void the25thClause(Due d) {
        String most = times(24, "up 0;");
        for (String word : new String[] {"says 1;", "sways", "person", "hear 9", "tell 9;", "up 0;", "down ;", "day 99;"}) {
            faulty(d, most + word, 6, 120);
            faulty(d, most + " \n" + word, 6, 122);
        }
        faulty(d, times(25, "up 0;") + "foo", 6, 120);
    }

    // ---- promise 8

    @Sentence(promise = 8, says = "THE TEXT (told; at first none) rules.")
    static void atFirstNoneRules(Due d) {
        TruePoll x = Polls.people(2, 9, 0);
        d.is("about(2)", x.about(2), NONE);
        Feeder.read(x, "says 0;");
        d.is("about(2) behind text()", x.about(2), NONE);
        d.is("comes(0)", x.comes(0), 2);
        d.yes("by(0)", x.by(0));
        d.is("comes(0)", x.comes(0), 0);
    }

    @Sentence(promise = 8, says = "THE TEXT (NONE: none): true.")
    static void noneCanRuleAgain(Due d) {
        TruePoll x = Polls.people(2, 9, 0);
        d.yes("by(NONE) without TEXTS", x.by(NONE));
        for (int t = 0; t <= 3; t++) {
            Feeder.read(x, "says " + t % 2 + ";");
        }
        for (int t = 0; t <= 3; t++) {
            d.yes("by(" + t + ")", x.by(t));
            d.is("about(2)", x.about(2), t);
            d.is("comes(0)", x.comes(0), t % 2 * 2);
        }
        d.yes("by(NONE)", x.by(NONE));
        d.is("about(2)", x.about(2), NONE);
        d.is("comes(0)", x.comes(0), 2);
    }

    @Sentence(promise = 8, says = "False for others.")
    static void othersCannotRule(Due d) {
        TruePoll x = Polls.people(2, 9, 0);
        d.no("by(0) without TEXTS", x.by(0));
        for (int t = 0; t <= 2; t++) {
            Feeder.read(x, "says 0;");
        }
        x.by(2);
        String ahead = Polls.seen(x);
        for (int wrong : new int[] {3, 4, -2, -3, 32, Polls.LOW, Polls.HIGH}) {
            d.no("by(" + wrong + ")", x.by(wrong));
        }
        d.same("nothing is done", Polls.seen(x), ahead);
        Feeder.read(x, "says 1;");
        d.yes("by(3)", x.by(3));
        d.no("by(4)", x.by(4));
    }

    // ---- promise 12

    @Sentence(promise = 12, says = "PLAYED by a TEXT: its CLAUSES but laws, in their order, as by hand; one that "
        + "can't be ends it")
    static void whatCannotBeEndsIt(Due d) {
        String[] texts = {"up 2;", "down 2;", "up 0;up 0;up 0;", "down 1;down 1;", "hear 0 from 0;", "hear 2 from 0;",
            "hear 0 from 2;", "tell 3;"};
        int[] due = {0, 0, 1, 1, 0, 0, 0, 0};
        for (int i = 0; i < texts.length; i++) {
            TruePoll x = Polls.leaning(0, 8, 1);
            Feeder.read(x, texts[i] + "day 1;");
            d.is("played(0) of " + texts[i], x.played(0), due[i]);
            d.is("what is behind it isn't done", x.is(0), 0);
        }
        TruePoll x = Polls.leaning(0, 8, 1);
        Feeder.read(x, "up 0;down 1;hear 0 from 1;tell 2;hear 0 from 1;person 3 sort 3;up 2;hear 2 from 0;day 1;tell 3;");
        d.is("played(0)", x.played(0), NONE);
        d.is("0 hears nobody any more", x.of(0, 2), 0);
        d.is("2 hears 0", x.of(2, 2), 1);
        d.is("ROUND", x.is(0), 3);
        d.is("the law is none of its", x.about(2), NONE);
    }

    @Sentence(promise = 12, says = "its CLAUSES but laws")
    static void lawsAreNotPlayed(Due d) {
        TruePoll x = Polls.people(2, 9, 0);
        Feeder.read(x, "says 0; sways -2;");
        String ahead = Polls.imaged(x);
        d.is("played(0)", x.played(0), NONE);
        d.same("nothing is done", Polls.imaged(x), ahead);
        Feeder.read(x, "");
        d.is("played(1) of none", x.played(1), NONE);
        d.is("STEPS", x.about(3), 0);
    }

    @Sentence(promise = 12, says = "(of so many ROUNDS those that can pass do)")
    static void thoseThatCanPassDo(Due d) {
        TruePoll x = Polls.at(9939, Polls.people(1, 9, 0));
        Feeder.read(x, "says 1;day 60;day 60;down 0;");
        Feeder.read(x, "tell 0;");
        x.image();
        d.is("played(0) in 9939", x.played(0), 2);
        d.is("ROUND", x.is(0), 9999);
        d.is("played(0) in 9999", x.played(0), 1);
        d.is("played(1) in 9999", x.played(1), 0);
        d.is("LEAN: what is behind it isn't done", x.of(0, 0), 9);
        x.back();
        x.day(1);
        d.is("played(0) in 9940: the 60th of the first can't", x.played(0), 1);
        d.is("ROUND", x.is(0), 9999);
        d.is("the latest was told what came ahead of it", x.book(29, 1), x.book(28, 2));
    }

    @Sentence(promise = 12, says = "its number among all CLAUSES (from 0); what was done stays.")
    static void lawsAreCounted(Due d) {
        TruePoll x = Polls.leaning(0, 8, 1);
        Feeder.read(x, "says 1;up 0;sways 1;up 1;up 0;up 1;");
        d.is("played(0)", x.played(0), 4);
        d.is("LEAN of 0", x.of(0, 0), 9);
        d.is("LEAN of 1", x.of(1, 0), 2);
        d.is("STEPS", x.about(3), 2);
        d.is("undo()", x.undo(), 1);
        d.is("LEAN of 1", x.of(1, 0), 1);
        Feeder.read(x, times(23, "tell 2;") + "tell 3;");
        d.is("the last of 24", x.played(1), 23);
        d.is("ROUND", x.is(0), 23);
    }

    @Sentence(promise = 12, says = "PLAYED by a TEXT: NONE: all is done; else the number of the CLAUSE that can't be.")
    static void aNinthPersonCannotBe(Due d) {
        TruePoll x = new TruePoll();
        Feeder.read(x, times(8, "person 5 sort 1;"));
        Feeder.read(x, "says 1;person 9 sort 0;up 0;");
        d.is("played(0): eight", x.played(0), NONE);
        d.is("PEOPLE", x.about(0), 8);
        d.is("played(1): no ninth", x.played(1), 1);
        d.is("PEOPLE", x.about(0), 8);
        d.is("what is behind it isn't done", x.is(4), 40);
        x.back();
        d.is("TEXTS", x.about(1), 0);
    }

    @Sentence(promise = 12, says = "-2 for others.")
    static void otherTextsAreMinusTwo(Due d) {
        TruePoll x = Polls.people(2, 5, 0);
        d.is("played(0) without TEXTS", x.played(0), -2);
        for (int t = 0; t <= 2; t++) {
            Feeder.read(x, "up 0;");
        }
        String ahead = Polls.seen(x);
        Polls.beyond(d, "played", 0, 2, -2, x::played);
        d.same("nothing is done", Polls.seen(x), ahead);
        d.is("played(2)", x.played(2), NONE);
        Feeder.read(x, "up 0;");
        d.is("played(3)", x.played(3), NONE);
        d.is("played(4)", x.played(4), -2);
    }
}
