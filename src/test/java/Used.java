import java.nio.charset.StandardCharsets;

/** A TreacleTank that a test uses for no more calls than the document speaks of. */
final class Used {
    private static final int MOST_CALLS = 512;

    private final TreacleTank x = new TreacleTank();
    private int calls;

    private TreacleTank call() {
        calls++;
        if (calls > MOST_CALLS) {
            throw new IllegalStateException("this test makes a 513th call, whose answer is free");
        }
        return x;
    }

    int left() {
        return MOST_CALLS - calls;
    }

    /** Puts a text on the tape, in place of what is there. */
    void tape(String text) {
        byte[] bytes = text.getBytes(StandardCharsets.ISO_8859_1);
        end(0);
        for (int from = 0; from < bytes.length; from += 20) {
            int[] four = new int[5];
            for (int n = 0; n < 20 && from + n < bytes.length; n++) {
                four[n / 4] |= (bytes[from + n] & 255) << (24 - n % 4 * 8);
            }
            feed(four[0], four[1], four[2], four[3], four[4]);
        }
        end(bytes.length);
    }

    int story(String text) {
        tape(text);
        return story();
    }

    int rule(String text) {
        tape(text);
        return rule();
    }

    boolean begin(int radius, int weight, int tire, int vent, int warm) {
        return call().begin(radius, weight, tire, vent, warm);
    }

    int ring(int feet, int drawn, int built, int strength, int brittle, int holes, int rivets, int coins) {
        return call().ring(feet, drawn, built, strength, brittle, holes, rivets, coins);
    }

    int pour(int feet, int heat) {
        return call().pour(feet, heat);
    }

    int draw(int feet) {
        return call().draw(feet);
    }

    int air(int heat) {
        return call().air(heat);
    }

    int hours(int n) {
        return call().hours(n);
    }

    int count(int what) {
        return call().count(what);
    }

    int layer(int layer, int what) {
        return call().layer(layer, what);
    }

    int told(int ring, int what) {
        return call().told(ring, what);
    }

    int nearest() {
        return call().nearest();
    }

    int feed(int a, int b, int c, int d, int e) {
        return call().feed(a, b, c, d, e);
    }

    int end(int n) {
        return call().end(n);
    }

    int story() {
        return call().story();
    }

    int rule() {
        return call().rule();
    }

    int fits(int story, int ring) {
        return call().fits(story, ring);
    }

    int trace(int trace, int is) {
        return call().trace(trace, is);
    }

    int chance(int story, int ring, int trace) {
        return call().chance(story, ring, trace);
    }

    long weight(int story, int ring) {
        return call().weight(story, ring);
    }

    int odds(int story, int ring) {
        return call().odds(story, ring);
    }

    int made(int story, int ring, int seed, int n) {
        return call().made(story, ring, seed, n);
    }

    int span(int ring, int what) {
        return call().span(ring, what);
    }

    int trial(int feet, int weight) {
        return call().trial(feet, weight);
    }

    int needed(int ring, int weight) {
        return call().needed(ring, weight);
    }

    int more() {
        return call().more();
    }

    int thicker(int ring) {
        return call().thicker(ring);
    }

    boolean look(int man, int hour) {
        return call().look(man, hour);
    }

    int owed() {
        return call().owed();
    }

    int ground(int x, int y, int n) {
        return call().ground(x, y, n);
    }

    boolean wave(int x, int y, int much, int easy, int stiff) {
        return call().wave(x, y, much, easy, stiff);
    }

    int minutes(int n) {
        return call().minutes(n);
    }

    int place(int x, int y, int what) {
        return call().place(x, y, what);
    }

    int witness(int hour, int said, int read) {
        return call().witness(hour, said, read);
    }

    int lean(int said, int paper, int from, int to, int part) {
        return call().lean(said, paper, from, to, part);
    }

    int mark(int k) {
        return call().mark(k);
    }

    int back(int k) {
        return call().back(k);
    }
}
