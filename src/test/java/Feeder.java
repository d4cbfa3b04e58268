/** Puts texts onto the tape of a poll, twenty bytes a call. */
final class Feeder {
    private Feeder() {
    }

    /** The five numbers of the twenty bytes of a text from a place on, 0 behind its end. */
    static int[] fives(String text, int from) {
        int[] fives = new int[5];
        for (int i = 0; i < 20; i++) {
            int b = from + i < text.length() ? text.charAt(from + i) : 0;
            fives[i / 4] = fives[i / 4] << 8 | b;
        }
        return fives;
    }

    /** The tape has just this text then; it must have 300 bytes at most, whole twenties told. */
    static void onTape(TruePoll poll, String text) {
        poll.end(0);
        for (int from = 0; from < text.length(); from += 20) {
            int[] n = fives(text, from);
            poll.feed(n[0], n[1], n[2], n[3], n[4]);
        }
        poll.end(text.length());
    }

    static int read(TruePoll poll, String text) {
        onTape(poll, text);
        return poll.text();
    }
}
