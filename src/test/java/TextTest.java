import java.util.Random;

/** What TEXTS can be, their FAULTS and what their laws come to: by hand, and against PlainPoll. */
public final class TextTest {
    private static final Due DUE = new Due("TextTest");
    private static final int DRAWN = 12000;

    private TextTest() {
    }

    public static void main(String[] args) {
        cannotStand();
        wrongNumbers();
        tooDeep();
        otherFaults();
        sound();
        cutOff();
        oneBehindTheOther();
        worths();
        names();
        swaying();
        drawnTexts();
        DUE.close();
    }

    private static void faulty(String text, int kind, int place) {
        TruePoll x = new TruePoll();
        DUE.is("text of " + text, Feeder.read(x, text), TruePoll.NONE);
        DUE.is("fault of " + text, x.fault(0), kind);
        DUE.is("place of " + text, x.fault(1), place);
    }

    private static void cannotStand() {
        faulty("foo", 1, 0);
        faulty("  foo 1;", 1, 2);
        faulty(";", 1, 0);
        faulty("Says 1;", 1, 0);
        for (String letter : new String[] {"a", "z", "A", "Z", "x"}) {
            faulty("says" + letter + " 1;", 1, 0);
        }
        for (String none : new String[] {"`", "{", "@", "[", "_", ":", "!"}) {
            faulty("says " + none + ";", 1, 5);
        }
        faulty("says", 1, 4);
        faulty("says  \n ", 1, 8);
        faulty("says 1", 1, 6);
        faulty("says 1 1;", 1, 7);
        faulty("says 5own;", 1, 6);
        faulty("says 1;;", 1, 7);
        faulty("says 1 +;", 1, 8);
        faulty("says 1 + * 2;", 1, 9);
        faulty("says ();", 1, 6);
        faulty("says (1;", 1, 7);
        faulty("says 1);", 1, 6);
        faulty("says 1 < 2;", 1, 7);
        faulty("says not 1 < 2;", 1, 5);
        faulty("says person;", 1, 5);
        faulty("says lean;", 1, 9);
        faulty("says if own then 1 else 2 end;", 1, 12);
        faulty("says if (own < 1) then 1 else 2 end;", 1, 13);
        faulty("says if own < = 1 then 1 else 2 end;", 1, 14);
        faulty("says if own <> 1 then 1 else 2 end;", 1, 13);
        faulty("says if own = 1 = 1 then 1 else 2 end;", 1, 16);
        faulty("says if own = 1 then 1 end;", 1, 23);
        faulty("says if own = 1 then 1 else 2;", 1, 29);
        faulty("says if own = 1 or then 1 else 2 end;", 1, 19);
        faulty("says own\t;", 1, 8);
        faulty("says own\0;", 1, 8);
        faulty("says \u00e91;", 1, 5);
        faulty("says 1, 2;", 1, 6);
        faulty("person 1 2;", 1, 9);
        faulty("person own sort 1;", 1, 7);
        faulty("person -1 sort 1;", 1, 7);
        faulty("hear 1 2;", 1, 7);
        faulty("hear 1 from;", 1, 11);
        faulty("tell ;", 1, 5);
        faulty("up 1 2;", 1, 5);
        faulty("day 60 61;", 1, 7);
        faulty("day 60 99999;", 1, 7);
        faulty("sort 1;", 1, 0);
        faulty("from 1;", 1, 0);
        faulty("99999", 1, 0);
    }

    private static void wrongNumbers() {
        faulty("says 10000;", 2, 5);
        faulty("sways 1 + 123456789012345678901234567890;", 2, 10);
        faulty("person 10 sort 1;", 2, 7);
        faulty("person 9 sort 4;", 2, 14);
        faulty("hear 8 from 1;", 2, 5);
        faulty("hear 7 from 8;", 2, 12);
        faulty("tell 9;", 2, 5);
        faulty("up 8;", 2, 3);
        faulty("down 8;", 2, 5);
        faulty("day 0;", 2, 4);
        faulty("day 61;", 2, 4);
        faulty("day 10000;", 2, 4);
        faulty("day 4294967297;", 2, 4);
    }

    private static void tooDeep() {
        faulty("says (((((((((1)))))))));", 3, 13);
        faulty("says ---------1;", 3, 13);
        faulty("says lean lean lean lean lean lean lean lean lean 1;", 3, 45);
        faulty("says said said said said said said said said said 1;", 3, 45);
        faulty("says if not not not not not not not not own = 1 then 1 else 2 end;", 3, 36);
        faulty("says if if if if if if if if if 1;", 3, 29);
        faulty("says -(lean said(-(if not 1 = 1", 3, 22);
        faulty("says -(lean said(-(if -1 = 1", 3, 22);
        faulty("says -(lean said(-(if 1 not", 1, 24);
        faulty("says ((((((((1))))))) + (((((((((1;", 3, 31);
        faulty("says ((((((((1 + -1;", 3, 17);
        faulty("says ((((((((1))))))));says 1;", 4, 23);
        faulty("says (((((((());", 1, 13);
        faulty("says if 1 = 1 then 1 else ((((((((1", 3, 33);
    }

    private static void otherFaults() {
        faulty("says 1; says 1;", 4, 8);
        faulty("sways 1; says 1; sways 1;", 4, 17);
        faulty("says yes;", 5, 5);
        faulty("says 1; sways yes; tell yes;", 1, 24);
        faulty("says lean (1 + yes);", 5, 15);
        faulty("sways yes; says yes;", 5, 16);
        faulty("says 1 yes;", 1, 7);
        StringBuilder many = new StringBuilder();
        for (int i = 0; i < 24; i++) {
            many.append("up 0;");
        }
        DUE.is("24 CLAUSES", Feeder.read(new TruePoll(), many.toString()), 0);
        faulty(many + " day 1;", 6, 121);
        faulty(many + "says 1;", 6, 120);
        faulty(many + "foo;", 1, 120);
        faulty(many + ";", 1, 120);
        faulty("says 1;" + many.substring(5) + "says 1;", 4, 122);
        faulty("says 1;" + many.substring(5) + "sways 1;", 6, 122);
    }

    private static void sound() {
        String[] texts = {"", " \n ", "says 1;", "says1;", "sways yes;says\n\n0000000000000000000001 ;", "person 0 sort 0;",
            "person9sort3;hear7from0;tell8;up7;down0;day60;day 1;", "says ((((((((1))))))));", "says --------1;",
            "says if not not not not not not not own = 1 then 1 else 2 end;", "says 9999;",
            "says lean lean lean lean lean lean lean lean 1 + lean (lean lean lean lean lean lean 1);",
            "says if 1 < 2 and 1 <= 2 or 1 > 2 or 1 >= 2 or 1 = 2 or 1 # 2 then sort else people end;"};
        for (String text : texts) {
            TruePoll x = new TruePoll();
            DUE.is("text of " + text, Feeder.read(x, text), 0);
            DUE.is("fault of " + text, x.fault(0), 0);
            DUE.is("place of " + text, x.fault(1), TruePoll.NONE);
        }
        StringBuilder full = new StringBuilder("says 1");
        while (full.length() < 298) {
            full.append("+1");
        }
        full.append(" ;");
        DUE.is("300 bytes", Feeder.read(new TruePoll(), full.toString()), 0);
    }

    /** What was on the tape behind its end is not there any more. */
    private static void cutOff() {
        String[] texts = {"up 15;", "says owns;", "says if 1 <= 2;", "says ;     1;"};
        int[] ends = {4, 8, 11, 8};
        for (int i = 0; i < texts.length; i++) {
            TruePoll x = new TruePoll();
            Feeder.onTape(x, texts[i]);
            x.end(ends[i]);
            DUE.is("cut off: " + texts[i], x.text(), TruePoll.NONE);
            DUE.is("fault", x.fault(0), 1);
            DUE.is("place", x.fault(1), i == 3 ? 5 : ends[i]);
        }
        TruePoll x = new TruePoll();
        Feeder.onTape(x, "up 1; 5;");
        x.end(5);
        DUE.is("cut off behind a CLAUSE", x.text(), 0);
    }

    /** Each TEXT, faulty ones too, is read as if it were the first. */
    private static void oneBehindTheOther() {
        StringBuilder ones = new StringBuilder("says 0");
        while (ones.length() < 280) {
            ones.append("+1-1");
        }
        TruePoll x = new TruePoll();
        for (int i = 0; i < 8; i++) {
            x.person(i, 0);
        }
        x.image();
        for (int i = 0; i < 12; i++) {
            x.back();
            DUE.is("a broken one", Feeder.read(x, ones + "+("), TruePoll.NONE);
            DUE.is("a full one", Feeder.read(x, ones + "+own-" + i % 8 + ";"), 0);
            x.by(0);
            DUE.is("it rules", x.comes(0), 7 - i % 8);
        }
    }

    /** Whether a SUM is just so much, by four people of whom 1 and 3 said yes, 1 hearing all others. */
    private static void worth(String sum, int want) {
        TruePoll x = new TruePoll();
        for (int i = 0; i < 4; i++) {
            x.person(i * 2, 3 - i);
        }
        x.hear(1, 0);
        x.hear(1, 2);
        x.hear(1, 3);
        Feeder.read(x, "says who - who/2*2;");
        x.by(0);
        x.tell(2);
        DUE.is("who said yes", x.is(3), 10);
        DUE.is("text of " + sum, Feeder.read(x, "says if " + sum + " = " + want + " then who = 1; "), TruePoll.NONE);
        int text = Feeder.read(x, "says if " + sum + " = " + want + " then 1 else 0 end;");
        DUE.is("text of " + sum, text, 1);
        x.by(text);
        DUE.yes(sum + " is " + want, x.says(1, 3));
    }

    private static void worths() {
        worth("1 + 2 * 3", 7);
        worth("(1 + 2) * 3", 9);
        worth("10 - 4 - 3", 3);
        worth("100 / 7 / 2", 7);
        worth("2 * 7 / 3", 4);
        worth("7 / 3 * 2", 4);
        worth("-7 / 2", -3);
        worth("7 / -2", -3);
        worth("-7 / -2", 3);
        worth("7 / 0", 0);
        worth("-7 / (1 - 1) + 5", 5);
        worth("--7", 7);
        worth("-2 * 3 + 1", -5);
        worth("9999 * 9999 / 1000", 1000);
        worth("9999 * 100 + 9999 - 9999 * 100", 100);
        worth("-9999 * 9999 / 1000", -1000);
        worth("0 - 9999 * 100 - 9999 + 9999 * 100", -100);
        worth("9999 * 9999 * 9999 - 9999 * 9999", 0);
        worth("(9999*9999 - 9999*9999 - 9999*9999 - 5) / 1000", -1000);
        worth("if 1 < 2 then 3 else 4 end", 3);
        worth("if 2 < 2 then 3 else 4 end", 4);
        worth("if 2 <= 2 then 3 else 4 end", 3);
        worth("if 2 > 2 then 3 else 4 end", 4);
        worth("if 2 >= 2 then 3 else 4 end", 3);
        worth("if 2 # 2 then 3 else 4 end", 4);
        worth("if 1 # 2 then 3 else 4 end", 3);
        worth("if not 1 = 2 then 3 else 4 end", 3);
        worth("if not not 1 = 2 then 3 else 4 end", 4);
        worth("if not 1 = 1 or 1 = 1 then 3 else 4 end", 3);
        worth("if not 1 = 1 and 1 = 2 then 3 else 4 end", 4);
        worth("if 1 = 1 or 1 = 2 and 1 = 2 then 3 else 4 end", 3);
        worth("if 1 = 2 and 1 = 2 or 1 = 1 then 3 else 4 end", 3);
        worth("if 1 = 2 and 1 = 1 or 1 = 2 then 3 else 4 end", 4);
        worth("if if 1 = 1 then 2 else 3 end = 2 then if 1 = 2 then 5 else 6 end else 7 end * 2", 12);
        worth("1 + if 1 = 2 then 5 + 5 else 6 * 6 end + 1", 38);
    }

    private static void names() {
        worth("who", 1);
        worth("own", 2);
        worth("sort", 2);
        worth("people", 4);
        worth("heard", 1);
        worth("figure", 3);
        worth("round", 1);
        worth("lean 3", 6);
        worth("lean who + 1", 3);
        worth("lean (who + 1)", 4);
        worth("lean 4", 0);
        worth("lean -1", 0);
        worth("lean (9999 * 9999)", 0);
        worth("lean lean 1", 4);
        worth("said 0", 0);
        worth("said 1", 1);
        worth("said 3", 1);
        worth("said 4", 0);
        worth("said -1", 0);
        worth("said (32 + 1)", 0);
        worth("said said 1 + 5", 6);
        worth("-lean 3 * 2", -12);
    }

    /** All is as ahead of the ROUND while LEANS sway, but yes. */
    private static void swaying() {
        TruePoll x = new TruePoll();
        x.person(4, 0);
        x.person(5, 0);
        x.person(8, 0);
        x.hear(0, 1);
        // 0 takes after who is next; 1 and 2 hear nobody
        DUE.is("text", Feeder.read(x, "sways lean (who + 1) - own + heard + said 1 + round;"), 0);
        x.by(0);
        DUE.is("first", x.tell(0), 2);
        DUE.is("0: 4 and 5 - 4", x.of(0, 0), 5);
        DUE.is("1: 5 and 2 of 8 - 5", x.of(1, 0), 7);
        DUE.is("2: 8 - 2 of 0 - 8", x.of(2, 0), 6);
        TruePoll y = new TruePoll();
        y.person(9, 0);
        y.person(0, 0);
        DUE.is("text", Feeder.read(y, "sways if yes = 1 then figure else -figure end;"), 0);
        y.by(0);
        y.tell(2);
        DUE.is("held 9", y.of(0, 0), 9);
        DUE.is("held 0", y.of(1, 0), 0);
        TruePoll z = new TruePoll();
        z.person(5, 0);
        DUE.is("text", Feeder.read(z, "says figure; sways 9999 * 9999 * (figure * 2 - 1);"), 0);
        z.by(0);
        z.tell(1);
        DUE.is("2 at most", z.of(0, 0), 7);
        z.tell(0);
        DUE.is("-2 at least", z.of(0, 0), 5);
    }

    /** Texts of words drawn one behind the other, many of them deep; most have FAULTS. */
    private static void drawnTexts() {
        Random random = new Random(4711);
        int[] kinds = new int[7];
        TextMaker maker = new TextMaker(random);
        for (int i = 0; i < DRAWN && !DUE.anyWrong(); i++) {
            TruePoll x = new TruePoll();
            PlainPoll plain = new PlainPoll();
            for (int p = 0; p < 5; p++) {
                x.person(p * 2, p % 4);
                plain.person(p * 2, p % 4);
            }
            x.hear(0, 3);
            plain.hear(0, 3);
            x.day(2);
            plain.day(2);
            String text = i % 3 == 0 ? maker.soup() : i % 3 == 1 ? maker.broken() : maker.text();
            plain.tape = text;
            DUE.is("text of " + text, Feeder.read(x, text), plain.text());
            DUE.is("fault of " + text, x.fault(0), plain.fault(0));
            DUE.is("place of " + text, x.fault(1), plain.fault(1));
            kinds[plain.fault(0)]++;
            if (plain.fault(0) == 0) {
                x.by(0);
                plain.by(0);
                sameLaw(text, x, plain);
            }
        }
        for (int kind = 0; kind < kinds.length; kind++) {
            DUE.yes("some have FAULT " + kind, kinds[kind] > 5);
        }
    }

    private static void sameLaw(String text, TruePoll x, PlainPoll plain) {
        for (int p = 0; p < 5; p++) {
            for (int f = 0; f <= 8; f++) {
                DUE.is("says(" + p + ", " + f + ") by " + text, x.says(p, f) ? 1 : 0, plain.says(p, f) ? 1 : 0);
            }
            DUE.is("of(" + p + ", 4) by " + text, x.of(p, 4), plain.of(p, 4));
            DUE.is("of(" + p + ", 5) by " + text, x.of(p, 5), plain.of(p, 5));
        }
        DUE.is("day(3) by " + text, x.day(3), plain.day(3));
        DUE.is("answers by " + text, x.is(3), plain.is(3));
        DUE.is("leans by " + text, x.is(4), plain.is(4));
    }
}
