/** Promises 27 and 28: look, owed. */
public final class RuleTest {
    private static final Due DUE = new Due();

    public static void main(String[] args) {
        looks();
        owedByTime();
        owedByTest();
        severalClauses();
        DUE.finish();
    }

    private static void looks() {
        Used x = new Used();
        x.hours(10);
        DUE.due("man -1", x.look(-1, 0), false);
        DUE.due("man 10", x.look(10, 0), false);
        DUE.due("hour -1", x.look(0, -1), false);
        DUE.due("hour 11", x.look(0, 11), false);
        DUE.due("hour 10", x.look(0, 10), true);
        DUE.due("hour 0", x.look(9, 0), true);
        DUE.due("earlier", x.look(0, 3), true);
    }

    private static void owedByTime() {
        Used x = new Used();
        x.rule("must 0 every 3;must 9 every 1");
        DUE.due("no ring", x.owed(), 0);
        x.begin(1, 1, 0, 0, 1);
        DUE.due("no ring yet", x.owed(), 0);
        x.ring(1, 1, 1, 1, 0, 0, 1, 1);
        DUE.due("never looked", x.owed(), 1 | 1 << 9);
        x.look(0, 0);
        x.look(9, 0);
        DUE.due("both looked", x.owed(), 0);
        x.hours(1);
        DUE.due("one hour", x.owed(), 1 << 9);
        x.hours(1);
        x.look(9, 2);
        DUE.due("two hours", x.owed(), 0);
        x.hours(1);
        DUE.due("three hours", x.owed(), 1 | 1 << 9);
        x.look(0, 1);
        x.look(0, 0);
        DUE.due("the latest counts", x.owed(), 1 << 9);
    }

    private static void owedByTest() {
        Used x = new Used();
        x.rule("must 4 every 1 if ring=1 and built<10");
        x.rule("must 5 every 1 if burst=1");
        x.begin(1, 1, 0, 0, 1);
        x.ring(1, 1, 5, 1, 0, 0, 100, 1);
        DUE.due("of no ring", x.owed(), 0);
        x.ring(1, 1, 9, 1, 0, 0, 100, 1);
        DUE.due("of some ring", x.owed(), 1 << 4);
        x.begin(9, 9, 0, 0, 1);
        DUE.due("no rings now", x.owed(), 0);
        x.ring(1, 1, 5, 1, 0, 0, 1, 1);
        x.pour(1, 0);
        DUE.due("burst", x.owed(), 1 << 5);
    }

    private static void severalClauses() {
        Used x = new Used();
        x.begin(1, 1, 0, 0, 1);
        x.ring(1, 1, 5, 1, 0, 0, 100, 1);
        x.rule("must 1 every 9;must 1 every 5 if air<5;must 2 every 9999");
        x.look(1, 0);
        x.look(2, 0);
        x.hours(6);
        DUE.due("not yet", x.owed(), 0);
        x.air(4);
        DUE.due("by the second", x.owed(), 2);
        x.air(5);
        x.hours(3);
        DUE.due("by the first", x.owed(), 2);
    }
}
