import java.util.Random;

/** Asks the class and PlainPoll the same, by long runs of drawn calls with fixed seeds. */
public final class ModelTest {
    private static final int RUNS = 400;
    /** No object is asked more than 512 times; what is begun below this ends below that. */
    private static final int CALLS = 490;
    private static final int KINDS = 62;

    private final Due due;
    private final Random random;
    private final int run;
    /** Low: ordinary arguments alone; high: many that are none. */
    private final int wildness;
    private TruePoll poll = new TruePoll();
    private PlainPoll plain = new PlainPoll();
    private int calls;

    private ModelTest(Due due, int run) {
        this.due = due;
        this.run = run;
        this.random = new Random(run * 7919L + 13);
        this.wildness = run % 4 == 3 ? 30 : 4;
    }

    public static void main(String[] args) {
        Due due = new Due("ModelTest");
        int runs = args.length > 0 ? Integer.parseInt(args[0]) : RUNS;
        int first = args.length > 1 ? Integer.parseInt(args[1]) : 0;
        for (int run = first; run < first + runs && !due.anyWrong(); run++) {
            new ModelTest(due, run).go();
        }
        lastRounds(due);
        due.close();
    }

    private void go() {
        int people = random.nextInt(9);
        for (int i = 0; i < people; i++) {
            same("person", poll.person(i, i % 4), plain.person(i, i % 4));
        }
        for (int i = 0; i < people * 2; i++) {
            int a = random.nextInt(people);
            int b = random.nextInt(people);
            same("hear(" + a + ", " + b + ")", num(poll.hear(a, b)), num(plain.hear(a, b)));
        }
        int texts = random.nextInt(4);
        for (int i = 0; i < texts; i++) {
            readText(new TextMaker(random).text());
        }
        if (texts > 0) {
            int by = random.nextInt(texts + 1) - 1;
            same("by(" + by + ")", num(poll.by(by)), num(plain.by(by)));
        }
        while (calls < CALLS && !due.anyWrong()) {
            call(random.nextInt(KINDS + 12));
        }
    }

    /** What is asked near the last ROUND. */
    private static void lastRounds(Due due) {
        for (int more = 0; more < 3 && !due.anyWrong(); more++) {
            ModelTest test = new ModelTest(due, 1000 + more);
            for (int i = 0; i < 5; i++) {
                test.same("person", test.poll.person(i + 2, i % 4), test.plain.person(i + 2, i % 4));
            }
            test.readText("sways if yes = 1 then 1 else 0 - 1 end;day 60;day 60;day 60;day 60;day 60;day 60;day 60;"
                + "day 60;day 60;day 60;day 60;day 60;day 60;day 60;day 60;");
            test.same("by", num(test.poll.by(0)), num(test.plain.by(0)));
            for (int i = 0; i < 11; i++) {
                test.same("played(0)", test.poll.played(0), test.plain.played(0));
                test.same("is(0)", test.poll.is(0), test.plain.is(0));
            }
            test.same("day(60)", test.poll.day(60), test.plain.day(60));
            int left = 9999 - test.poll.is(0);
            if (left > 1) {
                test.same("day(left - 1)", test.poll.day(left - 1), test.plain.day(left - 1));
            }
            while (test.calls < CALLS && !due.anyWrong()) {
                test.call(test.random.nextInt(KINDS));
            }
        }
    }

    private static long num(boolean b) {
        return b ? 1 : 0;
    }

    private void same(String call, long got, long want) {
        calls++;
        due.is("run " + run + ", call " + calls + ": " + call, got, want);
    }

    /** From low to high; now and then something else. */
    private int some(int low, int high) {
        if (random.nextInt(100) < wildness) {
            switch (random.nextInt(6)) {
                case 0: return low - 1;
                case 1: return high + 1;
                case 2: return -1;
                case 3: return Integer.MIN_VALUE;
                case 4: return Integer.MAX_VALUE;
                default: return random.nextInt();
            }
        }
        return low + random.nextInt(high - low + 1);
    }

    private void readText(String text) {
        same("end(0)", poll.end(0), plain.end(0));
        for (int from = 0; from < text.length() && from < 300; from += 20) {
            int[] n = Feeder.fives(text, from);
            same("feed", poll.feed(n[0], n[1], n[2], n[3], n[4]), plain.feed(n[0], n[1], n[2], n[3], n[4]));
        }
        int length = Math.min(300, text.length());
        same("end(length)", poll.end(length), plain.end(length));
        same("text() of " + text, poll.text(), plain.text());
        same("fault(0) of " + text, poll.fault(0), plain.fault(0));
        same("fault(1) of " + text, poll.fault(1), plain.fault(1));
    }

    private void call(int kind) {
        if (kind < 16) {
            change(kind);
        } else if (kind < 36) {
            askFigures(kind);
        } else if (kind < 62) {
            askOthers(kind);
        } else {
            change(kind % 2 == 0 ? 8 : kind % 3 == 0 ? 9 : 10);
        }
    }

    private int people() {
        return Math.max(0, plain.size() - 1);
    }

    private void change(int kind) {
        int a;
        int b;
        switch (kind) {
            case 0:
                a = some(0, 9);
                b = some(0, 3);
                if (random.nextInt(3) == 0) {
                    same("person(" + a + ", " + b + ")", poll.person(a, b), plain.person(a, b));
                }
                break;
            case 1:
                a = some(0, people());
                b = some(0, people());
                same("hear(" + a + ", " + b + ")", num(poll.hear(a, b)), num(plain.hear(a, b)));
                break;
            case 2:
                if (random.nextInt(4) == 0) {
                    TextMaker maker = new TextMaker(random);
                    readText(random.nextInt(3) == 0 ? maker.text() : maker.broken());
                }
                break;
            case 3:
                a = some(0, 300);
                same("end(" + a + ")", poll.end(a), plain.end(a));
                break;
            case 4:
                a = random.nextInt();
                same("feed", poll.feed(a, -1, 0, 1, ~a), plain.feed(a, -1, 0, 1, ~a));
                break;
            case 5:
                same("text()", poll.text(), plain.text());
                break;
            case 6:
                a = some(-1, 3);
                same("by(" + a + ")", num(poll.by(a)), num(plain.by(a)));
                break;
            case 7:
                a = some(0, 3);
                same("played(" + a + ")", poll.played(a), plain.played(a));
                break;
            case 8:
                a = some(0, plain.size());
                same("tell(" + a + ")", poll.tell(a), plain.tell(a));
                break;
            case 9:
                a = some(0, people());
                b = some(-3, 3);
                same("nudge(" + a + ", " + b + ")", num(poll.nudge(a, b)), num(plain.nudge(a, b)));
                break;
            case 10:
                a = some(1, random.nextInt(4) == 0 ? 60 : 3);
                same("day(" + a + ")", poll.day(a), plain.day(a));
                break;
            case 11:
                a = some(0, 9999);
                b = some(1, 40);
                same("years(" + a + ", " + b + ")", poll.years(a, b), plain.years(a, b));
                break;
            case 12:
            case 13:
                same("undo()", poll.undo(), plain.undo());
                break;
            case 14:
                if (random.nextInt(3) == 0) {
                    same("image()", poll.image(), plain.image());
                }
                break;
            default:
                if (random.nextInt(5) == 0) {
                    same("back()", poll.back(), plain.back());
                }
        }
    }

    private void askFigures(int kind) {
        int a = some(0, plain.size());
        int b = some(0, plain.size());
        int c = some(0, 8);
        boolean yes = random.nextBoolean();
        switch (kind) {
            case 16: same("comes(" + a + ")", poll.comes(a), plain.comes(a)); break;
            case 17: same("trues()", poll.trues(), plain.trues()); break;
            case 18: same("firm()", poll.firm(), plain.firm()); break;
            case 19: same("ends(" + a + ", " + yes + ")", poll.ends(a, yes), plain.ends(a, yes)); break;
            case 20: same("till(" + a + ")", poll.till(a), plain.till(a)); break;
            case 21: same("leads(" + a + ")", poll.leads(a), plain.leads(a)); break;
            case 22: same("rings()", poll.rings(), plain.rings()); break;
            case 23: same("nearest()", poll.nearest(), plain.nearest()); break;
            case 24: same("path(" + a + ", " + b + ", " + c + ")", poll.path(a, b, c), plain.path(a, b, c)); break;
            case 25: same("win(" + a + ", " + yes + ")", poll.win(a, yes), plain.win(a, yes)); break;
            case 26:
                c = some(0, 2);
                same("two(" + a + ", " + b + ", " + c + ")", poll.two(a, b, c), plain.two(a, b, c));
                break;
            case 27: same("split(" + a + ", " + b + ")", poll.split(a, b), plain.split(a, b)); break;
            case 28: same("mind(" + a + ", " + b + ")", poll.mind(a, b), plain.mind(a, b)); break;
            case 29: same("unasked(" + yes + ")", poll.unasked(yes), plain.unasked(yes)); break;
            case 30: same("cheapest(" + a + ")", poll.cheapest(a), plain.cheapest(a)); break;
            case 31: same("part()", poll.part(), plain.part()); break;
            case 32: same("game(" + c + ")", poll.game(c), plain.game(c)); break;
            case 33: same("choice(" + c + ")", poll.choice(c), plain.choice(c)); break;
            case 34:
                c = some(0, people());
                same("move(" + c + ", " + a + ")", poll.move(c, a), plain.move(c, a));
                break;
            default:
                c = some(1, 60);
                b = some(0, 1);
                same("foretold(" + c + ", " + b + ")", poll.foretold(c, b), plain.foretold(c, b));
        }
    }

    private void askOthers(int kind) {
        int a = some(0, people());
        int b = some(0, people());
        int c = some(0, 10);
        int figure = some(0, 8);
        boolean yes = random.nextBoolean();
        switch (kind) {
            case 36: same("fault(" + c % 3 + ")", poll.fault(c % 3), plain.fault(c % 3)); break;
            case 37:
                c = some(0, 5);
                same("of(" + a + ", " + c + ")", poll.of(a, c), plain.of(a, c));
                break;
            case 38: same("says(" + a + ", " + figure + ")", num(poll.says(a, figure)), num(plain.says(a, figure))); break;
            case 39:
                c = some(0, 4);
                same("is(" + c + ")", poll.is(c), plain.is(c));
                break;
            case 40:
                c = some(-1, 30);
                b = some(0, 2);
                same("book(" + c + ", " + b + ")", poll.book(c, b), plain.book(c, b));
                break;
            case 41: same("alike(" + a + ", " + b + ")", poll.alike(a, b), plain.alike(a, b)); break;
            case 42: same("pair(" + yes + ")", poll.pair(yes), plain.pair(yes)); break;
            case 43: same("sure(" + figure + ", " + c + ")", poll.sure(figure, c, yes), plain.sure(figure, c, yes)); break;
            case 44: same("mean(" + c + ")", poll.mean(c, yes), plain.mean(c, yes)); break;
            case 45: same("reach(" + a + ")", poll.reach(a), plain.reach(a)); break;
            case 46: same("circles()", poll.circles(), plain.circles()); break;
            case 47: same("loud()", poll.loud(), plain.loud()); break;
            case 48:
                b = some(figure < 0 || figure > 8 ? 0 : figure, 8);
                figure = random.nextInt(25) == 0 ? -1 : figure;
                same("party(" + figure + ", " + b + ")", poll.party(figure, b), plain.party(figure, b));
                break;
            case 49: same("lives(" + figure + ")", poll.lives(figure), plain.lives(figure)); break;
            case 50: same("most()", poll.most(), plain.most()); break;
            case 51: same("fewest(" + yes + ")", poll.fewest(yes), plain.fewest(yes)); break;
            case 52:
                b = some(1, 99);
                a = some(0, b < 1 || b > 99 ? 98 : b - 1);
                c = some(0, 999);
                same("decimal(" + a + ", " + b + ", " + c + ")", poll.decimal(a, b, c), plain.decimal(a, b, c));
                break;
            case 53:
                b = some(1, 99);
                a = some(0, b < 1 || b > 99 ? 98 : b - 1);
                same("decimals(" + a + ", " + b + ", " + yes + ")", poll.decimals(a, b, yes), plain.decimals(a, b, yes));
                break;
            case 54:
                a = some(0, 9);
                b = some(0, 99);
                same("village(" + a + ", " + b + ")", num(poll.village(a, b)), num(plain.village(a, b)));
                break;
            case 55:
                a = some(0, 9);
                same("window(" + a + ", " + c + ")", poll.window(a, c), plain.window(a, c));
                break;
            case 56: same("busiest(" + c + ")", poll.busiest(c), plain.busiest(c)); break;
            case 57:
                c = some(0, plain.size());
                c = random.nextInt(4) == 0 || figure < 0 || figure > 8 ? c : plain.comes(figure);
                figure = random.nextInt(5) == 0 ? -1 : figure;
                same("said(" + figure + ", " + c + ")", poll.said(figure, c), plain.said(figure, c));
                break;
            case 58: same("whose()", poll.whose(), plain.whose()); break;
            case 59:
                same("honest()", poll.honest(), plain.honest());
                break;
            case 60:
                same("changes()", poll.changes(), plain.changes());
                same("ledger(" + figure + ")", poll.ledger(figure), plain.ledger(figure));
                break;
            default:
                c = some(0, 5);
                same("about(" + c + ")", poll.about(c), plain.about(c));
        }
    }
}
