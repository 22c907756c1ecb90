/** Promises 35 and 36: mark, back. */
public final class MarkTest {
    private static final Due DUE = new Due();

    public static void main(String[] args) {
        edges();
        allGoesBack();
        textsStay();
        backFromBurst();
        backToNothing();
        marksStay();
        otherWitnesses();
        otherRings();
        DUE.finish();
    }

    private static void edges() {
        Used x = new Used();
        x.hours(7);
        DUE.due("mark -1", x.mark(-1), -1);
        DUE.due("mark 4", x.mark(4), -1);
        DUE.due("back -1", x.back(-1), -1);
        DUE.due("back 4", x.back(4), -1);
        DUE.due("back 3, never made", x.back(3), -1);
        DUE.due("mark 3", x.mark(3), 7);
        x.hours(2);
        DUE.due("back 3", x.back(3), 7);
        DUE.due("back 0, never made", x.back(0), -1);
    }

    private static void allGoesBack() {
        Used x = new Used();
        x.rule("must 2 every 5");
        x.begin(10, 5, 3, 0, 1);
        x.ring(5, 30, 40, 50, -50, 0, 9999, 3);
        x.ring(6, 31, 41, 50, -50, 0, 9999, 3);
        x.pour(2, -20);
        x.pour(4, 90);
        x.hours(3);
        x.trace(4, 1);
        x.look(2, 3);
        x.witness(2, 1, 1);
        x.witness(3, 2, 0);
        x.ground(4, 4, 9);
        x.wave(4, 4, 500, 3, 9);
        x.minutes(4);
        long before = sum(x);
        DUE.due("mark", x.mark(1), 3);
        x.ring(6, 31, 41, 50, -50, 0, 9999, 3);
        x.pour(1, 10);
        x.hours(9);
        x.draw(4);
        x.air(-3);
        x.trace(4, 0);
        x.trace(5, 0);
        x.look(2, 11);
        x.witness(8, 2, 1);
        x.ground(4, 4, 8);
        x.ground(1, 1, 1);
        x.minutes(9);
        DUE.due("something is otherwise", sum(x) == before, false);
        DUE.due("back", x.back(1), 3);
        DUE.due("all as it was", sum(x), before);
        DUE.due("trace", x.trace(4, 1), 1);
        DUE.due("trace", x.trace(5, -1), -1);
        x.hours(5);
        DUE.due("looked as then", x.owed(), 4);
        x.back(1);
        x.begin(1, 1, 0, 0, 1);
        x.wave(0, 0, 1, 0, 0);
        x.back(1);
        DUE.due("all as it was, by another tank", sum(x), before);
    }

    private static long sum(Used x) {
        long sum = 0;
        for (int what = 0; what < 12; what++) {
            sum = sum * 31 + x.count(what);
        }
        for (int ring = 0; ring < 3; ring++) {
            for (int what = 0; what < 6; what++) {
                sum = sum * 31 + x.told(ring, what);
            }
            sum = sum * 31 + x.needed(ring, 9);
            sum = sum * 31 + x.thicker(ring);
        }
        for (int layer = 0; layer < 4; layer++) {
            sum = sum * 31 + x.layer(layer, 0);
            sum = sum * 31 + x.layer(layer, 1);
        }
        for (int n = 0; n < 12; n++) {
            for (int what = 0; what < 4; what++) {
                sum = sum * 31 + x.place(n, n * 5 % 12, what);
            }
        }
        sum = sum * 31 + x.lean(2, 0, 0, 99, 0);
        sum = sum * 31 + x.lean(2, 0, 0, 99, 1);
        sum = sum * 31 + x.minutes(0);
        sum = sum * 31 + x.owed();
        return sum * 31 + x.more();
    }

    private static void textsStay() {
        Used x = new Used();
        x.mark(0);
        x.story("prior 3");
        x.rule("must 1 every 1");
        x.feed(1, 2, 3, 4, 5);
        x.back(0);
        DUE.due("stories", x.count(9), 1);
        DUE.due("rules", x.count(10), 1);
        DUE.due("tape", x.count(12), 20);
    }

    private static void backFromBurst() {
        Used x = new Used();
        x.begin(1, 10, 0, 0, 1);
        x.ring(5, 30, 1, 10, -50, 0, 9999, 3);
        x.pour(1, 0);
        x.mark(0);
        x.pour(1, 0);
        x.mark(1);
        DUE.due("burst", x.count(7), 0);
        x.back(0);
        DUE.due("not burst", x.count(7), -1);
        DUE.due("no hour of it", x.count(8), -1);
        DUE.due("fillings", x.count(6), 1);
        DUE.due("may be drawn off", x.draw(1), 0);
        x.back(1);
        DUE.due("burst again", x.count(7), 0);
        DUE.due("its load", x.told(0, 5), 20);
        DUE.due("no draw", x.draw(1), -1);
    }

    private static void backToNothing() {
        Used x = new Used();
        x.mark(0);
        x.begin(1, 10, 0, 0, 1);
        x.ring(5, 30, 1, 10, -50, 0, 9999, 3);
        x.wave(1, 1, 1, 1, 1);
        x.back(0);
        DUE.due("no tank", x.ring(5, 30, 1, 10, -50, 0, 9999, 3), -1);
        DUE.due("no wave", x.minutes(0), -1);
        DUE.due("no treacle", x.place(1, 1, 0), 0);
        DUE.due("never came", x.place(1, 1, 3), -1);
    }

    private static void marksStay() {
        Used x = new Used();
        x.mark(0);
        x.hours(5);
        x.mark(1);
        x.back(0);
        x.hours(1);
        DUE.due("0 again", x.back(0), 0);
        DUE.due("1 is still there", x.back(1), 5);
        x.hours(1);
        DUE.due("made anew", x.mark(0), 6);
        x.back(1);
        DUE.due("back to the newer", x.back(0), 6);
    }

    private static void otherWitnesses() {
        Used x = new Used();
        x.hours(9);
        x.mark(0);
        x.witness(1, 1, 1);
        x.witness(1, 2, 0);
        x.mark(1);
        x.back(0);
        x.witness(9, 3, 0);
        x.witness(8, 4, 2);
        x.back(1);
        DUE.due("asked, said and read as then", x.lean(1, 0, 0, 5, 0), 1);
        DUE.due("below the line", x.lean(1, 0, 0, 5, 1), 1);
        DUE.due("nobody asked later", x.lean(3, 1, 5, 9, 1), 0);
    }

    private static void otherRings() {
        Used x = new Used();
        x.begin(1, 10, 0, 0, 1);
        x.ring(5, 30, 40, 10, 20, 2, 900, 3);
        x.ring(6, 31, 41, 11, -50, 1, 901, 4);
        x.hours(2);
        x.mark(0);
        int[] before = rings(x);
        x.begin(2, 9, 5, 1, 2);
        x.ring(7, 8, 9, 10, 11, 0, 13, 14);
        x.ring(8, 9, 10, 11, 12, 3, 14, 15);
        x.pour(9, 1);
        DUE.due("the other one burst", x.count(8), 2);
        DUE.due("rings are otherwise", java.util.Arrays.equals(before, rings(x)), false);
        x.back(0);
        DUE.due("rings are as they were", java.util.Arrays.equals(before, rings(x)), true);
        DUE.due("no hour of a burst", x.count(8), -1);
    }

    private static int[] rings(Used x) {
        return new int[] {x.told(0, 1), x.told(0, 3), x.told(1, 1), x.told(1, 3), x.needed(1, 11), x.trial(11, 9),
            x.more(), x.thicker(0), x.thicker(1), x.pour(11, 50), x.told(0, 1), x.told(1, 0)};
    }
}
