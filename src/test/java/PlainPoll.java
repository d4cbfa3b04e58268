import java.math.BigInteger;
import java.util.ArrayList;
import java.util.HashMap;
import java.util.LinkedHashSet;
import java.util.List;
import java.util.Map;
import java.util.Set;
import java.util.TreeSet;

/**
 * The document once more, written apart from the class, with all of the Java library and in the
 * slowest and plainest way: ModelTest asks both the same.
 */
final class PlainPoll {
    static final class Fault extends RuntimeException {
        private static final long serialVersionUID = 1;
        final int kind;
        final int place;

        Fault(int kind, int place) {
            this.kind = kind;
            this.place = place;
        }
    }

    static final class Token {
        String word;
        int place;
        boolean number;

        Token(String word, int place, boolean number) {
            this.word = word;
            this.place = place;
            this.number = number;
        }

        long value() {
            return new BigInteger(word).min(BigInteger.valueOf(1000000)).longValue();
        }
    }

    /** What a law knows when it is asked. */
    static final class Scene {
        State state;
        int who;
        int figure;
        int yes;
    }

    interface Node {
        long ask(Scene scene);
    }

    static final class Clause {
        String kind;
        int a;
        int b;
        Node law;
    }

    static final class Script {
        List<Clause> clauses = new ArrayList<>();

        Node law(String kind) {
            for (Clause c : clauses) {
                if (c.kind.equals(kind)) {
                    return c.law;
                }
            }
            return null;
        }
    }

    static final class Person implements Cloneable {
        int lean;
        int told;
        int sort;
        boolean yes;
        Set<Integer> hears = new TreeSet<>();

        Person copy() {
            Person p = new Person();
            p.lean = lean;
            p.told = told;
            p.sort = sort;
            p.yes = yes;
            p.hears = new TreeSet<>(hears);
            return p;
        }
    }

    static final class State {
        List<Person> people = new ArrayList<>();
        int figure;
        int round;
        int x = 449;
        List<int[]> book = new ArrayList<>();
        List<State> steps = new ArrayList<>();
        List<Script> texts = new ArrayList<>();
        int ruling = -1;
        List<int[]> parties = new ArrayList<>();
        List<int[]> said = new ArrayList<>();
        int[] villages = new int[10];

        State copy(boolean withSteps) {
            State s = new State();
            for (Person p : people) {
                s.people.add(p.copy());
            }
            s.figure = figure;
            s.round = round;
            s.x = x;
            s.book = new ArrayList<>(book);
            if (withSteps) {
                for (State step : steps) {
                    s.steps.add(step.copy(false));
                }
            }
            s.texts = new ArrayList<>(texts);
            s.ruling = ruling;
            s.parties = new ArrayList<>(parties);
            s.said = new ArrayList<>(said);
            s.villages = villages.clone();
            return s;
        }
    }

    /** The grammar, by descent, with an exception for a FAULT. */
    static final class Parser {
        final List<Token> tokens = new ArrayList<>();
        int i;
        String clause;

        Parser(String text) {
            int at = 0;
            while (at < text.length()) {
                char c = text.charAt(at);
                if (c == 32 || c == 10) {
                    at++;
                    continue;
                }
                int to = at + 1;
                boolean number = false;
                if (String.valueOf(c).matches("[a-zA-Z]")) {
                    while (to < text.length() && text.substring(to, to + 1).matches("[a-zA-Z]")) {
                        to++;
                    }
                } else if (String.valueOf(c).matches("[0-9]")) {
                    number = true;
                    while (to < text.length() && text.substring(to, to + 1).matches("[0-9]")) {
                        to++;
                    }
                } else if (text.startsWith("<=", at) || text.startsWith(">=", at)) {
                    to = at + 2;
                }
                tokens.add(new Token(text.substring(at, to), at, number));
                at = to;
            }
            tokens.add(new Token("", text.length(), false));
        }

        Token now() {
            return tokens.get(i);
        }

        boolean sees(String... words) {
            for (String w : words) {
                if (now().word.equals(w)) {
                    return true;
                }
            }
            return false;
        }

        Fault fault(int kind) {
            return new Fault(kind, now().place);
        }

        void take(String word) {
            if (!sees(word)) {
                throw fault(1);
            }
            i++;
        }

        int number(int low, int high) {
            if (!now().number) {
                throw fault(1);
            }
            if (now().value() < low || now().value() > high) {
                throw fault(2);
            }
            return (int) tokens.get(i++).value();
        }

        Script script() {
            Script script = new Script();
            while (!sees("")) {
                script.clauses.add(clause(script));
            }
            return script;
        }

        Clause clause(Script script) {
            if (!sees("says", "sways", "person", "hear", "tell", "up", "down", "day")) {
                throw fault(1);
            }
            if (sees("says", "sways") && script.law(now().word) != null) {
                throw fault(4);
            }
            if (script.clauses.size() == 24) {
                throw fault(6);
            }
            Clause c = new Clause();
            c.kind = now().word;
            clause = c.kind;
            i++;
            if (c.kind.equals("says") || c.kind.equals("sways")) {
                c.law = sum(0);
            } else if (c.kind.equals("person")) {
                c.a = number(0, 9);
                take("sort");
                c.b = number(0, 3);
            } else if (c.kind.equals("hear")) {
                c.a = number(0, 7);
                take("from");
                c.b = number(0, 7);
            } else if (c.kind.equals("tell")) {
                c.a = number(0, 8);
            } else if (c.kind.equals("day")) {
                c.a = number(1, 60);
            } else {
                c.a = number(0, 7);
            }
            take(";");
            return c;
        }

        static long hold(long n) {
            return n > 1000000 ? 1000000 : n < -1000000 ? -1000000 : n;
        }

        Node sum(int open) {
            Node left = product(open);
            while (sees("+", "-")) {
                boolean plus = sees("+");
                i++;
                Node a = left;
                Node b = product(open);
                left = s -> hold(plus ? a.ask(s) + b.ask(s) : a.ask(s) - b.ask(s));
            }
            return left;
        }

        Node product(int open) {
            Node left = one(open);
            while (sees("*", "/")) {
                boolean times = sees("*");
                i++;
                Node a = left;
                Node b = one(open);
                left = s -> {
                    long y = b.ask(s);
                    return times ? hold(a.ask(s) * y) : y == 0 ? 0 : a.ask(s) / y;
                };
            }
            return left;
        }

        int deeper(int open) {
            if (open == 8) {
                throw fault(3);
            }
            return open + 1;
        }

        Node one(int open) {
            if (now().number) {
                long n = number(0, 9999);
                return s -> n;
            }
            String word = now().word;
            switch (word) {
                case "(": {
                    int d = deeper(open);
                    i++;
                    Node inside = sum(d);
                    take(")");
                    return inside;
                }
                case "-": {
                    int d = deeper(open);
                    i++;
                    Node inside = one(d);
                    return s -> -inside.ask(s);
                }
                case "lean":
                case "said": {
                    int d = deeper(open);
                    i++;
                    Node inside = one(d);
                    return s -> {
                        long who = inside.ask(s);
                        if (who < 0 || who >= s.state.people.size()) {
                            return 0;
                        }
                        Person p = s.state.people.get((int) who);
                        return word.equals("lean") ? p.lean : p.yes ? 1 : 0;
                    };
                }
                case "if": {
                    int d = deeper(open);
                    i++;
                    Node asked = either(d);
                    take("then");
                    Node first = sum(d);
                    take("else");
                    Node second = sum(d);
                    take("end");
                    return s -> asked.ask(s) != 0 ? first.ask(s) : second.ask(s);
                }
                default:
                    return name(word);
            }
        }

        Node name(String word) {
            Node node;
            switch (word) {
                case "round": node = s -> s.state.round; break;
                case "who": node = s -> s.who; break;
                case "own": node = s -> s.state.people.get(s.who).lean; break;
                case "sort": node = s -> s.state.people.get(s.who).sort; break;
                case "people": node = s -> s.state.people.size(); break;
                case "heard":
                    node = s -> s.state.people.get(s.who).hears.stream().filter(h -> s.state.people.get(h).yes).count();
                    break;
                case "figure": node = s -> s.figure; break;
                case "yes":
                    if (clause.equals("says")) {
                        throw fault(5);
                    }
                    node = s -> s.yes;
                    break;
                default:
                    throw fault(1);
            }
            i++;
            return node;
        }

        Node either(int open) {
            Node left = both(open);
            while (sees("or")) {
                i++;
                Node a = left;
                Node b = both(open);
                left = s -> a.ask(s) != 0 | b.ask(s) != 0 ? 1 : 0;
            }
            return left;
        }

        Node both(int open) {
            Node left = ask(open);
            while (sees("and")) {
                i++;
                Node a = left;
                Node b = ask(open);
                left = s -> a.ask(s) != 0 & b.ask(s) != 0 ? 1 : 0;
            }
            return left;
        }

        Node ask(int open) {
            if (sees("not")) {
                int d = deeper(open);
                i++;
                Node inside = ask(d);
                return s -> inside.ask(s) != 0 ? 0 : 1;
            }
            Node a = sum(open);
            if (!sees("<", "<=", ">", ">=", "=", "#")) {
                throw fault(1);
            }
            String how = now().word;
            i++;
            Node b = sum(open);
            return s -> {
                int c = Long.compare(a.ask(s), b.ask(s));
                boolean so = how.equals("<") ? c < 0 : how.equals("<=") ? c <= 0 : how.equals(">") ? c > 0
                    : how.equals(">=") ? c >= 0 : how.equals("=") ? c == 0 : c != 0;
                return so ? 1 : 0;
            };
        }
    }

    State all = new State();
    State kept = new State();
    String tape = "";
    int fault = -1;
    int faultPlace = -1;

    int size() {
        return all.people.size();
    }

    boolean isPerson(int p) {
        return p >= 0 && p < size();
    }

    boolean isFigure(int f) {
        return f >= 0 && f <= size();
    }

    Script ruling(State s) {
        return s.ruling < 0 ? null : s.texts.get(s.ruling);
    }

    boolean saysIn(State s, Script text, int p, int figure) {
        Person person = s.people.get(p);
        Node law = text == null ? null : text.law("says");
        if (law != null) {
            Scene scene = new Scene();
            scene.state = s;
            scene.who = p;
            scene.figure = figure;
            return law.ask(scene) > 0;
        }
        boolean half = figure * 2 >= s.people.size();
        switch (person.sort) {
            case 0: return person.lean - 4 > 0;
            case 1: return half;
            case 2: return !half;
            default: return figure - person.lean <= 2 && person.lean - figure <= 2;
        }
    }

    int swaysIn(State s, int p, int figure, int yes) {
        Script text = ruling(s);
        Node law = text == null ? null : text.law("sways");
        if (law == null) {
            return 0;
        }
        Scene scene = new Scene();
        scene.state = s;
        scene.who = p;
        scene.figure = figure;
        scene.yes = yes;
        long n = law.ask(scene);
        return n > 2 ? 2 : n < -2 ? -2 : (int) n;
    }

    int draw(State s) {
        int x = s.x;
        s.x = (int) ((x * 709L + 577) % 31033);
        return x;
    }

    void round(State s, int told) {
        State ahead = s.copy(false);
        int count = 0;
        for (int p = 0; p < s.people.size(); p++) {
            boolean yes = saysIn(ahead, ruling(s), p, told);
            if (draw(s) % 20 == 0) {
                yes = !yes;
            }
            Person person = s.people.get(p);
            person.yes = yes;
            int lean = person.lean + swaysIn(ahead, p, told, yes ? 1 : 0);
            person.lean = lean < 0 ? 0 : lean > 9 ? 9 : lean;
            count += yes ? 1 : 0;
        }
        s.figure = count;
        s.book.add(new int[] {s.round, told, count});
        while (s.book.size() > 30) {
            s.book.remove(0);
        }
        s.round++;
    }

    void step() {
        all.steps.add(all.copy(false));
        while (all.steps.size() > 30) {
            all.steps.remove(0);
        }
    }

    int person(int lean, int sort) {
        if (lean < 0 || lean > 9 || sort < 0 || sort > 3 || size() == 8) {
            return -1;
        }
        Person p = new Person();
        p.lean = lean;
        p.told = lean;
        p.sort = sort;
        all.people.add(p);
        return size() - 1;
    }

    boolean hear(int a, int b) {
        if (!isPerson(a) || !isPerson(b) || a == b) {
            return false;
        }
        Set<Integer> hears = all.people.get(a).hears;
        if (!hears.remove(b)) {
            hears.add(b);
        }
        return true;
    }

    int feed(int a, int b, int c, int d, int e) {
        if (tape.length() > 280) {
            return -1;
        }
        StringBuilder more = new StringBuilder(tape);
        for (int n : new int[] {a, b, c, d, e}) {
            more.append((char) (n >>> 24)).append((char) (n >>> 16 & 255)).append((char) (n >>> 8 & 255))
                .append((char) (n & 255));
        }
        tape = more.toString();
        return tape.length();
    }

    int end(int n) {
        if (n < 0 || n > tape.length()) {
            return -1;
        }
        tape = tape.substring(0, n);
        return n;
    }

    int text() {
        if (all.texts.size() == 4) {
            return -1;
        }
        String bytes = tape;
        tape = "";
        try {
            all.texts.add(new Parser(bytes).script());
        } catch (Fault f) {
            fault = f.kind;
            faultPlace = f.place;
            return -1;
        }
        fault = 0;
        faultPlace = -1;
        return all.texts.size() - 1;
    }

    int fault(int what) {
        return what == 0 ? fault : what == 1 ? faultPlace : -1;
    }

    boolean by(int text) {
        if (text < -1 || text >= all.texts.size()) {
            return false;
        }
        all.ruling = text;
        return true;
    }

    int tell(int figure) {
        if (!isFigure(figure) || all.round >= 9999) {
            return -1;
        }
        step();
        round(all, figure);
        return all.figure;
    }

    boolean nudge(int person, int by) {
        if (!isPerson(person) || by < -9 || by > 9 || by == 0) {
            return false;
        }
        int lean = all.people.get(person).lean + by;
        if (lean < 0 || lean > 9) {
            return false;
        }
        step();
        all.people.get(person).lean = lean;
        return true;
    }

    int day(int n) {
        if (n < 1 || n > 60 || all.round > 9999 - n) {
            return -1;
        }
        for (int i = 0; i < n; i++) {
            step();
            round(all, all.figure);
        }
        return all.figure;
    }

    int played(int text) {
        if (text < 0 || text >= all.texts.size()) {
            return -2;
        }
        List<Clause> clauses = all.texts.get(text).clauses;
        for (int i = 0; i < clauses.size(); i++) {
            Clause c = clauses.get(i);
            boolean done = true;
            switch (c.kind) {
                case "person": done = person(c.a, c.b) != -1; break;
                case "hear": done = hear(c.a, c.b); break;
                case "tell": done = tell(c.a) != -1; break;
                case "up": done = nudge(c.a, 1); break;
                case "down": done = nudge(c.a, -1); break;
                case "day":
                    for (int k = 0; k < c.a; k++) {
                        done = done && day(1) != -1;
                    }
                    break;
                default: break;
            }
            if (!done) {
                return i;
            }
        }
        return -1;
    }

    int years(int seed, int n) {
        if (seed < 0 || seed > 9999 || n < 1 || n > 40) {
            return -1;
        }
        step();
        all.x = seed * 2 + 449;
        for (int i = 0; i < n; i++) {
            int x = draw(all);
            int p = x / 6 % 8;
            int f = x / 6 % 9;
            switch (x % 6) {
                case 0:
                    if (isPerson(p) && all.people.get(p).lean < 9) {
                        all.people.get(p).lean++;
                    }
                    break;
                case 1:
                    if (isPerson(p) && all.people.get(p).lean > 0) {
                        all.people.get(p).lean--;
                    }
                    break;
                case 2:
                    if (x % 4 == 2 && isFigure(f) && all.round < 9999) {
                        round(all, f);
                    }
                    break;
                default:
                    if (all.round < 9999) {
                        round(all, all.figure);
                    }
            }
        }
        return all.round;
    }

    int undo() {
        if (all.steps.isEmpty()) {
            return -1;
        }
        State step = all.steps.remove(all.steps.size() - 1);
        for (int p = 0; p < size(); p++) {
            Person person = all.people.get(p);
            boolean since = p >= step.people.size();
            person.lean = since ? person.told : step.people.get(p).lean;
            person.yes = !since && step.people.get(p).yes;
        }
        all.figure = step.figure;
        all.round = step.round;
        all.x = step.x;
        all.book = new ArrayList<>(step.book);
        return all.steps.size();
    }

    int of(int person, int what) {
        if (!isPerson(person) || what < 0 || what > 5) {
            return -10;
        }
        Person p = all.people.get(person);
        switch (what) {
            case 0: return p.lean;
            case 1: return p.sort;
            case 2: return bits(p.hears);
            case 3: return p.yes ? 1 : 0;
            default: return swaysIn(all, person, all.figure, what == 4 ? 1 : 0);
        }
    }

    static int bits(Iterable<Integer> set) {
        int bits = 0;
        for (int i : set) {
            bits |= 1 << i;
        }
        return bits;
    }

    boolean says(int person, int figure) {
        return isPerson(person) && figure >= 0 && figure <= 8 && saysIn(all, ruling(all), person, figure);
    }

    int is(int what) {
        switch (what) {
            case 0: return all.round;
            case 1: return all.x;
            case 2: return all.figure;
            case 3: return answers(all);
            case 4: return all.people.stream().mapToInt(p -> p.lean).sum();
            default: return -2;
        }
    }

    int answers(State s) {
        Set<Integer> yes = new TreeSet<>();
        for (int p = 0; p < s.people.size(); p++) {
            if (s.people.get(p).yes) {
                yes.add(p);
            }
        }
        return bits(yes);
    }

    int book(int i, int what) {
        if (i == -1) {
            return all.book.size();
        }
        if (i < 0 || i >= all.book.size() || what < 0 || what > 2) {
            return -2;
        }
        return all.book.get(i)[what];
    }

    int foretold(int n, int what) {
        if (n < 1 || n > 60 || what < 0 || what > 1) {
            return -1;
        }
        State s = all.copy(false);
        for (int i = 0; i < n; i++) {
            if (s.round < 9999) {
                round(s, s.figure);
            }
        }
        return what == 0 ? s.figure : answers(s);
    }

    int comes(int f) {
        if (!isFigure(f)) {
            return -1;
        }
        int count = 0;
        for (int p = 0; p < size(); p++) {
            count += says(p, f) ? 1 : 0;
        }
        return count;
    }

    int trues() {
        int bits = 0;
        for (int f = 0; f <= size(); f++) {
            bits |= comes(f) == f ? 1 << f : 0;
        }
        return bits;
    }

    int firm() {
        int bits = 0;
        for (int f = 0; f <= size(); f++) {
            boolean firm = comes(f) == f;
            for (int g = f - 1; g <= f + 1; g++) {
                firm &= !isFigure(g) || comes(g) == f;
            }
            bits |= firm ? 1 << f : 0;
        }
        return bits;
    }

    /** The figures from one on, till one comes again; and that one behind them. */
    List<Integer> walk(int figure) {
        List<Integer> walk = new ArrayList<>();
        int f = figure;
        while (!walk.contains(f)) {
            walk.add(f);
            f = comes(f);
        }
        walk.add(f);
        return walk;
    }

    List<Integer> ring(int figure) {
        List<Integer> walk = walk(figure);
        int again = walk.get(walk.size() - 1);
        return walk.subList(walk.indexOf(again), walk.size() - 1);
    }

    int ends(int figure, boolean size) {
        if (!isFigure(figure)) {
            return -1;
        }
        return size ? ring(figure).size() : ring(figure).stream().min(Integer::compare).get();
    }

    int till(int figure) {
        if (!isFigure(figure)) {
            return -1;
        }
        List<Integer> walk = walk(figure);
        return walk.indexOf(walk.get(walk.size() - 1));
    }

    int leads(int figure) {
        if (!isFigure(figure)) {
            return -1;
        }
        int bits = 0;
        for (int f = 0; f <= size(); f++) {
            bits |= walk(f).contains(figure) ? 1 << f : 0;
        }
        return bits;
    }

    int rings() {
        Set<Integer> rings = new TreeSet<>();
        for (int f = 0; f <= size(); f++) {
            rings.add(bits(ring(f)));
        }
        return rings.size();
    }

    int nearest() {
        int best = 0;
        for (int f = size(); f >= 0; f--) {
            if (Math.abs(comes(f) - f) <= Math.abs(comes(best) - best)) {
                best = f;
            }
        }
        return best;
    }

    int path(int a, int b, int k) {
        if (!isFigure(a) || !isFigure(b) || k < 0 || k > 8) {
            return -1;
        }
        Map<Integer, Integer> far = new HashMap<>();
        List<Integer> line = new ArrayList<>();
        far.put(a, 0);
        line.add(a);
        for (int i = 0; i < line.size(); i++) {
            int f = line.get(i);
            for (int told = f - k; told <= f + k; told++) {
                if (isFigure(told) && !far.containsKey(comes(told))) {
                    far.put(comes(told), far.get(f) + 1);
                    line.add(comes(told));
                }
            }
        }
        return far.getOrDefault(b, -1);
    }

    int win(int figure, boolean many) {
        if (!isFigure(figure)) {
            return -1;
        }
        int best = -1;
        for (int set = 0; set < 1 << size(); set++) {
            int yes = 0;
            for (int p = 0; p < size(); p++) {
                yes += (set >> p & 1) == 1 || says(p, figure) ? 1 : 0;
            }
            if (yes == figure && (best < 0 || Integer.bitCount(set) < Integer.bitCount(best))) {
                best = set;
            }
        }
        return best < 0 || !many ? best : Integer.bitCount(best);
    }

    /** By a way to part: yes of those told the first, of the others. */
    int[] parted(int a, int b, int set) {
        int[] yes = new int[2];
        for (int p = 0; p < size(); p++) {
            int other = 1 - (set >> p & 1);
            yes[other] += says(p, other == 0 ? a : b) ? 1 : 0;
        }
        return yes;
    }

    int two(int a, int b, int what) {
        if (!isFigure(a) || !isFigure(b) || what < 0 || what > 2) {
            return -1;
        }
        int fewest = 99;
        int most = -1;
        int count = 0;
        for (int set = 0; set < 1 << size(); set++) {
            int[] yes = parted(a, b, set);
            fewest = Math.min(fewest, yes[0] + yes[1]);
            most = Math.max(most, yes[0] + yes[1]);
            count += yes[0] == a && yes[1] == b ? 1 : 0;
        }
        return what == 0 ? fewest : what == 1 ? most : count;
    }

    int split(int a, int b) {
        if (isFigure(a) && isFigure(b)) {
            for (int set = 0; set < 1 << size(); set++) {
                int[] yes = parted(a, b, set);
                if (yes[0] == a && yes[1] == b) {
                    return set;
                }
            }
        }
        return -1;
    }

    int mind(int a, int b) {
        if (!isFigure(a) || !isFigure(b)) {
            return -1;
        }
        int bits = 0;
        for (int p = 0; p < size(); p++) {
            bits |= says(p, a) != says(p, b) ? 1 << p : 0;
        }
        return bits;
    }

    /** By how many figures a person says yes. */
    int yeses(int p) {
        int count = 0;
        for (int f = 0; f <= size(); f++) {
            count += says(p, f) ? 1 : 0;
        }
        return count;
    }

    int unasked(boolean most) {
        int count = 0;
        for (int p = 0; p < size(); p++) {
            count += most ? yeses(p) > 0 ? 1 : 0 : yeses(p) == size() + 1 ? 1 : 0;
        }
        return count;
    }

    int alike(int a, int b) {
        if (!isPerson(a) || !isPerson(b)) {
            return -1;
        }
        int count = 0;
        for (int f = 0; f <= size(); f++) {
            count += says(a, f) == says(b, f) ? 1 : 0;
        }
        return count;
    }

    int pair(boolean second) {
        int[] best = {-1, -1, -1};
        for (int a = 0; a < size(); a++) {
            for (int b = a + 1; b < size(); b++) {
                if (alike(a, b) > best[0]) {
                    best = new int[] {alike(a, b), a, b};
                }
            }
        }
        return second ? best[2] : best[1];
    }

    int move(int person, int figure) {
        if (!isPerson(person) || !isFigure(figure)) {
            return -1;
        }
        Person p = all.people.get(person);
        int own = p.lean;
        boolean says = says(person, figure);
        int best = -1;
        for (int lean = 0; lean <= 9; lean++) {
            p.lean = lean;
            if (says(person, figure) != says && (best < 0 || Math.abs(lean - own) < Math.abs(best - own))) {
                best = lean;
            }
        }
        p.lean = own;
        return best;
    }

    int cheapest(int figure) {
        if (!isFigure(figure)) {
            return -1;
        }
        int best = -1;
        int due = Math.abs(comes(figure) - figure);
        for (int set = 0; set < 1 << size(); set++) {
            if (Integer.bitCount(set) != due) {
                continue;
            }
            int cost = 0;
            for (int p = 0; p < size() && cost >= 0; p++) {
                if ((set >> p & 1) == 1) {
                    boolean right = says(p, figure) == comes(figure) > figure;
                    int lean = move(p, figure);
                    cost = right && lean >= 0 ? cost + Math.abs(lean - all.people.get(p).lean) : -1;
                }
            }
            if (cost >= 0 && (best < 0 || cost < best)) {
                best = cost;
            }
        }
        return best;
    }

    static long lowest(long upper, long lower, boolean low) {
        BigInteger common = BigInteger.valueOf(upper).gcd(BigInteger.valueOf(lower));
        return (low ? lower : upper) / common.longValue();
    }

    long sure(int k, int odds, boolean low) {
        if (k < 0 || k > 8 || odds < 0 || odds > 10) {
            return -1;
        }
        long upper = 0;
        long lower = 1;
        for (int set = 0; set < 1 << size(); set++) {
            long likely = 1;
            int yes = 0;
            for (int p = 0; p < size(); p++) {
                boolean other = (set >> p & 1) == 1;
                likely *= other ? odds : 10 - odds;
                yes += says(p, all.figure) != other ? 1 : 0;
            }
            upper += yes == k ? likely : 0;
        }
        for (int p = 0; p < size(); p++) {
            lower *= 10;
        }
        return lowest(upper, lower, low);
    }

    long mean(int odds, boolean low) {
        if (odds < 0 || odds > 10) {
            return -1;
        }
        int tenths = 0;
        for (int p = 0; p < size(); p++) {
            tenths += says(p, all.figure) ? 10 - odds : odds;
        }
        return lowest(tenths, 10, low);
    }

    int reach(int person) {
        return isPerson(person) ? bits(reached(person)) : -1;
    }

    Set<Integer> reached(int person) {
        List<Integer> line = new ArrayList<>(all.people.get(person).hears);
        for (int i = 0; i < line.size(); i++) {
            for (int h : all.people.get(line.get(i)).hears) {
                if (!line.contains(h)) {
                    line.add(h);
                }
            }
        }
        return new LinkedHashSet<>(line);
    }

    int circles() {
        Set<Integer> circles = new TreeSet<>();
        for (int p = 0; p < size(); p++) {
            int circle = 1 << p;
            for (int q = 0; q < size(); q++) {
                if (reached(p).contains(q) && reached(q).contains(p)) {
                    circle |= 1 << q;
                }
            }
            circles.add(circle);
        }
        return circles.size();
    }

    int loud() {
        int best = -1;
        int most = 0;
        for (int p = 0; p < size(); p++) {
            int who = p;
            int count = (int) all.people.stream().filter(q -> q.hears.contains(who)).count();
            if (count > most) {
                most = count;
                best = p;
            }
        }
        return best;
    }

    int countBy(Script text, int figure) {
        int count = 0;
        for (int p = 0; p < size(); p++) {
            count += saysIn(all, text, p, figure) ? 1 : 0;
        }
        return count;
    }

    int part() {
        int best = 0;
        int most = -1;
        for (int f = 0; f <= size(); f++) {
            Set<Integer> counts = new TreeSet<>();
            for (Script text : all.texts) {
                counts.add(countBy(text, f));
            }
            if (counts.size() > most) {
                most = counts.size();
                best = f;
            }
        }
        return best;
    }

    /** The FIGURE at last of a game with so many rounds left, by trying all that can be told. */
    int last(int figure, int left, boolean much) {
        if (left == 0) {
            return figure;
        }
        int best = -1;
        for (int told = figure - 1; told <= figure + 1; told++) {
            if (isFigure(told)) {
                int last = last(comes(told), left - 1, !much);
                best = best < 0 ? last : much ? Math.max(best, last) : Math.min(best, last);
            }
        }
        return best;
    }

    int game(int n) {
        return n < 0 || n > 8 ? -1 : last(all.figure, n, true);
    }

    int choice(int n) {
        if (n < 1 || n > 8) {
            return -1;
        }
        for (int told = all.figure - 1; told <= all.figure + 1; told++) {
            if (isFigure(told) && last(comes(told), n - 1, false) == game(n)) {
                return told;
            }
        }
        throw new IllegalStateException();
    }

    int party(int low, int high) {
        if (low == -1) {
            all.parties.clear();
            return 0;
        }
        if (low < 0 || low > high || high > 8 || all.parties.size() == 8) {
            return -2;
        }
        all.parties.add(new int[] {low, high});
        return all.parties.size();
    }

    int lives(int figure) {
        return figure < 0 || figure > 8 ? -1
            : (int) all.parties.stream().filter(p -> p[0] <= figure && figure <= p[1]).count();
    }

    int most() {
        int best = 8;
        for (int f = 8; f >= 0; f--) {
            best = lives(f) >= lives(best) ? f : best;
        }
        return best;
    }

    int fewest(boolean many) {
        for (int size = 0; size <= 9; size++) {
            for (int set = 0; set < 512; set++) {
                int figures = set;
                if (Integer.bitCount(set) == size && all.parties.stream().allMatch(p -> {
                    for (int f = p[0]; f <= p[1]; f++) {
                        if ((figures >> f & 1) == 1) {
                            return true;
                        }
                    }
                    return false;
                })) {
                    return many ? size : set;
                }
            }
        }
        throw new IllegalStateException();
    }

    static boolean isPart(int part, int whole) {
        return part >= 0 && part < whole && whole <= 99;
    }

    int decimal(int part, int whole, int i) {
        if (!isPart(part, whole) || i < 0 || i > 999) {
            return -1;
        }
        return BigInteger.TEN.pow(i + 1).multiply(BigInteger.valueOf(part)).divide(BigInteger.valueOf(whole))
            .mod(BigInteger.TEN).intValue();
    }

    int decimals(int part, int whole, boolean ring) {
        if (!isPart(part, whole)) {
            return -1;
        }
        List<Integer> rests = new ArrayList<>();
        int rest = part;
        while (!rests.contains(rest)) {
            rests.add(rest);
            rest = rest * 10 % whole;
        }
        int ahead = rests.indexOf(rest);
        return ring ? rests.size() - ahead : ahead;
    }

    boolean village(int village, int yes) {
        if (village < 0 || village > 9 || yes < 0 || yes > 99) {
            return false;
        }
        all.villages[village] = yes;
        return true;
    }

    int window(int from, int many) {
        if (from < 0 || from > 9 || many < 0 || many > 10) {
            return -1;
        }
        int sum = 0;
        for (int v = from; v < from + many; v++) {
            sum += all.villages[v % 10];
        }
        return sum;
    }

    int busiest(int many) {
        if (many < 0 || many > 10) {
            return -1;
        }
        int best = 9;
        for (int v = 9; v >= 0; v--) {
            best = window(v, many) >= window(best, many) ? v : best;
        }
        return best;
    }

    int said(int figure, int count) {
        if (figure == -1) {
            all.said.clear();
            return 0;
        }
        if (figure < 0 || figure > 8 || count < 0 || count > 8 || all.said.size() == 8) {
            return -2;
        }
        all.said.add(new int[] {figure, count});
        return all.said.size();
    }

    int whose() {
        int bits = 0;
        for (int t = 0; t < all.texts.size(); t++) {
            Script text = all.texts.get(t);
            bits |= all.said.stream().allMatch(s -> countBy(text, s[0]) == s[1]) ? 1 << t : 0;
        }
        return bits;
    }

    int honest() {
        int bits = 0;
        for (int p = 0; p < size(); p++) {
            bits |= yeses(p) == 0 || yeses(p) == size() + 1 ? 1 << p : 0;
        }
        return bits;
    }

    int changes() {
        return (int) all.book.stream().filter(line -> line[1] != line[2]).count();
    }

    int ledger(int figure) {
        return figure < 0 || figure > 8 ? -2 : (int) all.book.stream().filter(line -> line[2] == figure).count();
    }

    int image() {
        kept = all.copy(true);
        return all.round;
    }

    int back() {
        all = kept.copy(true);
        return all.round;
    }

    int about(int what) {
        switch (what) {
            case 0: return size();
            case 1: return all.texts.size();
            case 2: return all.ruling;
            case 3: return all.steps.size();
            case 4: return all.said.size();
            case 5: return tape.length();
            default: return -2;
        }
    }
}
