import java.util.function.IntToLongFunction;

/** Polls to ask, and what is seen of one. No poll is asked more than 512 times, as the document wants it. */
final class Polls {
    static final int NONE = TruePoll.NONE;
    static final int LOW = Integer.MIN_VALUE;
    static final int HIGH = Integer.MAX_VALUE;

    private Polls() {
    }

    /** What is just beyond a range and what is far from it. */
    static int[] beyond(int low, int high) {
        return new int[] {low - 1, high + 1, low - 2, high + 2, low - 32, high + 32, high + 256, LOW, LOW + 1, HIGH, HIGH - 1};
    }

    /** Whether a call answers the same for all that is beyond a range. */
    static void beyond(Due d, String call, int low, int high, long want, IntToLongFunction asked) {
        for (int wrong : beyond(low, high)) {
            d.is(call + " of " + wrong, asked.applyAsLong(wrong), want);
        }
    }

    static TruePoll people(int many, int lean, int sort) {
        TruePoll x = new TruePoll();
        for (int p = 0; p < many; p++) {
            x.person(lean, sort);
        }
        return x;
    }

    static TruePoll leaning(int sort, int... leans) {
        TruePoll x = new TruePoll();
        for (int lean : leans) {
            x.person(lean, sort);
        }
        return x;
    }

    /** One of each SORT: of 0 .. 4 come 2 3 3 3 3. */
    static TruePoll four() {
        TruePoll x = new TruePoll();
        x.person(6, 0);
        x.person(0, 1);
        x.person(0, 2);
        x.person(3, 3);
        return x;
    }

    /** A text is read and rules. */
    static TruePoll ruled(TruePoll x, String text) {
        int number = Feeder.read(x, text);
        if (number == NONE || !x.by(number)) {
            throw new IllegalStateException("no text: " + text);
        }
        return x;
    }

    static TruePoll ruled(int people, String text) {
        return ruled(people(people, 5, 0), text);
    }

    /** One PERSON less than there are numbers; of each figure comes the number in its place: the first so many say yes. */
    static TruePoll coming(int... numbers) {
        StringBuilder law = new StringBuilder("says ");
        StringBuilder ends = new StringBuilder();
        int last = numbers.length - 1;
        for (int f = 0; f < last; f++) {
            law.append("if figure=").append(f).append("then ").append(numbers[f]).append("-who else ");
            ends.append(" end");
        }
        return ruled(last, law.append(numbers[last]).append("-who").append(ends).append(";").toString());
    }

    /** Lets ROUNDS pass until ROUND is so much. */
    static TruePoll at(int round, TruePoll x) {
        for (int left = round - x.is(0); left > 0; left -= 60) {
            x.day(Math.min(60, left));
        }
        if (x.is(0) != round) {
            throw new IllegalStateException("ROUND is " + x.is(0));
        }
        return x;
    }

    /** X behind so many draws. */
    static int drawn(int x, int times) {
        long at = x;
        for (int i = 0; i < times; i++) {
            at = (at * 709 + 577) % 31033;
        }
        return (int) at;
    }

    /** Who of so many draws 0, and says the other one, the first drawing X. */
    static int others(int x, int people) {
        int bits = 0;
        for (int p = 0; p < people; p++) {
            bits |= drawn(x, p) % 20 == 0 ? 1 << p : 0;
        }
        return bits;
    }

    /** All that an IMAGE holds, as far as it can be asked, by 100 calls at most. */
    static String imaged(TruePoll x) {
        StringBuilder seen = new StringBuilder("about");
        for (int what = 0; what <= 4; what++) {
            seen.append(' ').append(x.about(what));
        }
        seen.append("; is");
        for (int what = 0; what <= 4; what++) {
            seen.append(' ').append(x.is(what));
        }
        for (int p = 0; p < x.about(0); p++) {
            seen.append("; of ").append(p);
            for (int what = 0; what <= 5; what++) {
                seen.append(' ').append(x.of(p, what));
            }
        }
        int lines = x.book(NONE, 0);
        seen.append("; book ").append(lines);
        for (int what = 0; what <= 2; what++) {
            seen.append(' ').append(x.book(0, what)).append(' ').append(x.book(lines - 1, what));
        }
        seen.append("; lives");
        for (int f = 0; f <= 8; f++) {
            seen.append(' ').append(x.lives(f));
        }
        seen.append("; villages");
        for (int v = 0; v <= 9; v++) {
            seen.append(' ').append(x.window(v, 1));
        }
        return seen.append("; whose ").append(x.whose()).append("; trues ").append(x.trues()).toString();
    }

    /** All that can be asked, the tape and the latest FAULT, too. */
    static String seen(TruePoll x) {
        return imaged(x) + "; tape " + x.about(5) + "; fault " + x.fault(0) + " " + x.fault(1);
    }
}
