/** Promises 22 to 26: span, trial, needed, more, thicker. */
public final class StandingTest {
    private static final Due DUE = new Due();

    public static void main(String[] args) {
        span();
        trial();
        needed();
        more();
        moreWhenColdAndTired();
        noneIsEnough();
        thickest();
        DUE.finish();
    }

    private static Used tank() {
        Used x = new Used();
        x.begin(10, 5, 0, 0, 199);
        x.ring(5, 1, 40, 10, -50, 0, 9999, 3);
        x.ring(4, 1, 20, 10, -50, 0, 9999, 2);
        return x;
    }

    private static void span() {
        Used x = tank();
        x.pour(6, 10);
        x.draw(3);
        DUE.due("from", x.span(0, 0), 300);
        DUE.due("from, upper", x.span(1, 0), 50);
        DUE.due("no burst", x.span(0, 1), -1);
        DUE.due("what 2", x.span(0, 2), -1000);
        DUE.due("what -1", x.span(0, -1), -1000);
        DUE.due("ring 2", x.span(2, 0), -1000);
        DUE.due("ring -1", x.span(-1, 1), -1000);
        x.pour(6, 10);
        DUE.due("burst by the lower", x.count(7), 0);
        DUE.due("from stays", x.span(0, 0), 300);
        DUE.due("to less than", x.span(0, 1), 450);
        DUE.due("another one", x.span(1, 1), -1);
    }

    private static void trial() {
        Used x = tank();
        // bear 400 and 200
        DUE.due("8 feet of 5", x.trial(8, 5), 0);
        DUE.due("9 feet of 5", x.trial(9, 5), 1);
        DUE.due("9 feet of 6", x.trial(9, 6), 3);
        DUE.due("0 feet", x.trial(0, 99), 0);
        DUE.due("5 feet: the upper has none", x.trial(5, 99), 1);
        DUE.due("10 feet", x.trial(10, 5), -1);
        DUE.due("-1 feet", x.trial(-1, 5), -1);
        DUE.due("weight 0", x.trial(1, 0), -1);
        DUE.due("weight 100", x.trial(1, 100), -1);
        DUE.due("no tank", new Used().trial(0, 1), -1);
        Used y = new Used();
        y.begin(1, 1, 0, 0, 1);
        DUE.due("no ring", y.trial(0, 1), -1);
        y.ring(9, 1, 1, 10, -50, 0, 9999, 3);
        y.pour(1, -50);
        y.pour(1, 199);
        y.hours(3);
        DUE.due("gas", y.count(4), 6);
        DUE.due("without gas", y.trial(9, 1), 0);
    }

    private static void needed() {
        Used x = tank();
        // all full: 45 and 20
        DUE.due("as heavy", x.needed(0, 5), 9);
        DUE.due("as heavy, upper", x.needed(1, 5), 9);
        DUE.due("a little heavier", x.needed(0, 6), 8);
        DUE.due("upper", x.needed(1, 6), 9);
        DUE.due("just enough", x.needed(1, 10), 7);
        DUE.due("heaviest", x.needed(0, 99), 1);
        DUE.due("lighter", x.needed(0, 4), -2);
        DUE.due("weight 0", x.needed(0, 0), -1);
        DUE.due("weight 100", x.needed(0, 100), -1);
        DUE.due("ring 2", x.needed(2, 5), -1);
        DUE.due("ring -1", x.needed(-1, 5), -1);
    }

    private static void more() {
        Used x = tank();
        // 450 of 400, 200 of 200
        DUE.due("coins", x.more(), 15);
        DUE.due("the lower", x.thicker(0), 5);
        DUE.due("the upper", x.thicker(1), 0);
        x.ring(1, 1, 1, 3, -50, 5, 9999, 7);
        // 500 by 10: 50; 250 by 10: 25; 50 by 3 * 5 / 10: 34 (51 by halves), 33 gives 49
        DUE.due("coins of three", x.more(), 10 * 3 + 5 * 2 + 33 * 7);
        DUE.due("the third", x.thicker(2), 33);
        DUE.due("nothing was built", x.told(0, 3), 400);
        DUE.due("ring 3", x.thicker(3), -1);
        DUE.due("ring -1", x.thicker(-1), -1);
        DUE.due("no tank", new Used().more(), -1);
        DUE.due("no tank", new Used().thicker(0), -1);
    }

    private static void moreWhenColdAndTired() {
        Used x = new Used();
        x.begin(1, 10, 7, 0, 199);
        x.ring(10, 1, 9, 1, 11, 0, 9999, 2);
        // halved and less 7 a filling: 100 needs 200 and no filling
        DUE.due("cold", x.more(), 191 * 2);
        x.air(11);
        DUE.due("warm", x.more(), 91 * 2);
        x.begin(1, 10, 7, 0, 199);
        x.ring(10, 1, 50, 1, -50, 0, 9999, 2);
        x.pour(1, 0);
        x.pour(1, 0);
        DUE.due("tired", x.more(), 64 * 2);
        DUE.due("thicker", x.thicker(0), 64);
    }

    private static void noneIsEnough() {
        Used x = new Used();
        x.begin(10, 5, 0, 0, 199);
        x.ring(5, 1, 40, 10, -50, 0, 250, 3);
        DUE.due("rivets bear it", x.more(), 0);
        x.ring(1, 1, 40, 10, -50, 0, 50, 3);
        DUE.due("they no longer do", x.more(), -2);
        DUE.due("none for the lower", x.thicker(0), -2);
        DUE.due("none for the upper", x.thicker(1), -2);
        DUE.due("not there", x.thicker(2), -1);
    }

    private static void thickest() {
        Used x = new Used();
        x.begin(37, 27, 0, 0, 199);
        x.ring(1, 1, 1, 1, -50, 0, 9999, 99);
        DUE.due("999 bears 999", x.more(), 998 * 99);
        DUE.due("thicker", x.thicker(0), 998);
        x.begin(10, 99, 0, 0, 199);
        x.ring(1, 1, 999, 1, -50, 0, 9999, 99);
        DUE.due("999 already", x.more(), 0);
        x.begin(10, 50, 0, 0, 199);
        x.ring(2, 1, 999, 1, -50, 0, 9999, 99);
        DUE.due("1000 is above 999", x.more(), -2);
    }
}
