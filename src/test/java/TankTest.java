/** Promises 1 to 11: a new object, begin, ring, pour, draw, air, hours, count, layer, told, nearest. */
public final class TankTest {
    private static final Due DUE = new Due();

    public static void main(String[] args) {
        newObject();
        beginEdges();
        beginAnew();
        ringEdges();
        pourEdges();
        thirtyLayers();
        drawing();
        airEdges();
        hoursEdges();
        heatGoesDownAndUp();
        gasWorks();
        gasWithoutLayers();
        gasIsBounded();
        steelAndPlate();
        fillingsTire();
        burstByPour();
        burstByHour();
        burstByAir();
        burstSeeksLowest();
        burstNotByDrawOrRing();
        stoodAtItsComing();
        countsAndLayers();
        nearest();
        DUE.finish();
    }

    private static Used tank(int radius, int weight, int tire, int vent, int warm) {
        Used x = new Used();
        DUE.due("begin", x.begin(radius, weight, tire, vent, warm), true);
        return x;
    }

    private static int strongRing(Used x, int feet) {
        return x.ring(feet, 10, 999, 999, -50, 0, 9999999, 1);
    }

    private static void newObject() {
        Used x = new Used();
        int[] counts = {0, 0, 0, 0, 0, 10, 0, -1, -1, 0, 0, 0, 0};
        for (int what = 0; what < counts.length; what++) {
            DUE.due("new count " + what, x.count(what), counts[what]);
        }
        DUE.due("new nearest", x.nearest(), -1);
        DUE.due("new told", x.told(0, 0), -1000);
        DUE.due("new layer", x.layer(0, 0), -1000);
        DUE.due("new draw", x.draw(1), -1);
        DUE.due("new trace", x.trace(3, -1), -1);
        DUE.due("new owed", x.owed(), 0);
        DUE.due("new more", x.more(), -1);
        DUE.due("new back", x.back(0), -1);
        for (int y = 0; y < 12; y++) {
            for (int n = 0; n < 12; n++) {
                DUE.due("even streets", x.place(n, y, 1), 0);
                DUE.due("no treacle came", x.place(n, y, 3), -1);
            }
        }
        DUE.due("hours without a tank", x.hours(500), 500);
    }

    private static void beginEdges() {
        Used x = new Used();
        DUE.due("least", x.begin(1, 1, 0, 0, 1), true);
        DUE.due("most", x.begin(99, 99, 999, 99, 199), true);
        DUE.due("radius 0", x.begin(0, 1, 0, 0, 1), false);
        DUE.due("radius 100", x.begin(100, 1, 0, 0, 1), false);
        DUE.due("weight 0", x.begin(1, 0, 0, 0, 1), false);
        DUE.due("weight 100", x.begin(1, 100, 0, 0, 1), false);
        DUE.due("tire -1", x.begin(1, 1, -1, 0, 1), false);
        DUE.due("tire 1000", x.begin(1, 1, 1000, 0, 1), false);
        DUE.due("vent -1", x.begin(1, 1, 0, -1, 1), false);
        DUE.due("vent 100", x.begin(1, 1, 0, 100, 1), false);
        DUE.due("warm 0", x.begin(1, 1, 0, 0, 0), false);
        DUE.due("warm 200", x.begin(1, 1, 0, 0, 200), false);
    }

    private static void beginAnew() {
        Used x = tank(10, 5, 0, 0, 1);
        strongRing(x, 20);
        x.pour(5, 0);
        x.pour(5, 90);
        x.air(20);
        x.hours(3);
        DUE.due("gas before", x.count(4), 6);
        DUE.due("a wrong begin", x.begin(10, 5, 0, 0, 0), false);
        DUE.due("rings stay", x.count(1), 1);
        DUE.due("layers stay", x.count(2), 2);
        DUE.due("begin anew", x.begin(2, 3, 0, 0, 1), true);
        int[] counts = {3, 0, 0, 0, 0, 20, 0, -1, -1};
        for (int what = 0; what < counts.length; what++) {
            DUE.due("anew count " + what, x.count(what), counts[what]);
        }
        DUE.due("its ring is the first", strongRing(x, 4), 0);
        DUE.due("it never stood", x.told(0, 4), 0);
        DUE.due("not higher than its rings", x.pour(5, 0), -1);
        DUE.due("as high as its rings", x.pour(4, 0), 4);
        DUE.due("load by the new measures", x.told(0, 0), 24);
    }

    private static void ringEdges() {
        Used x = new Used();
        DUE.due("no tank", x.ring(1, 1, 1, 1, -50, 0, 1, 1), -1);
        x.begin(1, 1, 0, 0, 1);
        int[] least = {1, 1, 1, 1, -50, 0, 1, 1};
        int[] most = {20, 999, 999, 999, 99, 9, 9999999, 99};
        for (int n = 0; n < 8; n++) {
            int[] below = least.clone();
            below[n]--;
            DUE.due("below, " + n, ringOf(x, below), -1);
            int[] above = most.clone();
            above[n]++;
            DUE.due("above, " + n, ringOf(x, above), -1);
        }
        DUE.due("none came", x.count(1), 0);
        DUE.due("least", ringOf(x, least), 0);
        DUE.due("most", ringOf(x, most), 1);
        for (int n = 2; n < 7; n++) {
            DUE.due("ring", ringOf(x, most), n);
        }
        DUE.due("an eighth", ringOf(x, most), -1);
        DUE.due("seven", x.count(1), 7);
    }

    private static int ringOf(Used x, int[] m) {
        return x.ring(m[0], m[1], m[2], m[3], m[4], m[5], m[6], m[7]);
    }

    private static void pourEdges() {
        Used x = new Used();
        DUE.due("no tank", x.pour(1, 1), -1);
        x.begin(1, 1, 0, 0, 1);
        DUE.due("no ring", x.pour(1, 1), -1);
        for (int n = 0; n < 7; n++) {
            strongRing(x, 20);
        }
        DUE.due("0 feet", x.pour(0, 1), -1);
        DUE.due("100 feet", x.pour(100, 1), -1);
        DUE.due("heat -51", x.pour(1, -51), -1);
        DUE.due("heat 200", x.pour(1, 200), -1);
        DUE.due("no filling", x.count(6), 0);
        DUE.due("99 feet", x.pour(99, -50), 99);
        DUE.due("42 feet are too high", x.pour(42, 199), -1);
        DUE.due("41 feet", x.pour(41, 199), 140);
        DUE.due("upon the other", x.layer(1, 1), 199);
        DUE.due("two fillings", x.count(6), 2);
    }

    private static void thirtyLayers() {
        Used x = tank(1, 1, 0, 0, 1);
        strongRing(x, 20);
        strongRing(x, 20);
        for (int n = 1; n <= 30; n++) {
            DUE.due("pour", x.pour(1, 10), n);
        }
        DUE.due("a thirty-first", x.pour(1, 10), -1);
        DUE.due("thirty fillings", x.count(6), 30);
        DUE.due("one goes", x.draw(1), 29);
        DUE.due("one comes", x.pour(1, 10), 30);
        DUE.due("thirty layers", x.count(2), 30);
        DUE.due("thirty-one fillings", x.count(6), 31);
    }

    private static void drawing() {
        Used x = tank(1, 1, 0, 0, 1);
        strongRing(x, 20);
        DUE.due("nothing there", x.draw(1), -1);
        x.pour(3, 30);
        x.pour(4, 40);
        x.pour(5, 50);
        DUE.due("0 feet", x.draw(0), -1);
        DUE.due("-1 feet", x.draw(-1), -1);
        DUE.due("13 feet", x.draw(13), -1);
        DUE.due("2 feet", x.draw(2), 10);
        DUE.due("lowest feet", x.layer(0, 0), 1);
        DUE.due("lowest heat", x.layer(0, 1), 30);
        DUE.due("1 foot", x.draw(1), 9);
        DUE.due("two layers", x.count(2), 2);
        DUE.due("lowest heat", x.layer(0, 1), 40);
        DUE.due("6 feet", x.draw(6), 3);
        DUE.due("one layer", x.count(2), 1);
        DUE.due("its feet", x.layer(0, 0), 3);
        DUE.due("its heat", x.layer(0, 1), 50);
        DUE.due("all", x.draw(3), 0);
        DUE.due("no layer", x.count(2), 0);
        DUE.due("fillings stay", x.count(6), 3);
    }

    private static void airEdges() {
        Used x = new Used();
        DUE.due("air -50", x.air(-50), 10);
        DUE.due("air 99", x.air(99), -50);
        DUE.due("air -51", x.air(-51), -1000);
        DUE.due("air 100", x.air(100), -1000);
        DUE.due("air", x.count(5), 99);
    }

    private static void hoursEdges() {
        Used x = new Used();
        DUE.due("-1 hours", x.hours(-1), -1);
        DUE.due("501 hours", x.hours(501), -1);
        for (int n = 1; n < 200; n++) {
            DUE.due("500 hours", x.hours(500), n * 500);
        }
        DUE.due("one too many", x.hours(500), -1);
        DUE.due("now", x.count(0), 99500);
        DUE.due("the last", x.hours(499), 99999);
        DUE.due("none more", x.hours(1), -1);
        DUE.due("no hour", x.hours(0), 99999);
    }

    private static void heatGoesDownAndUp() {
        Used x = tank(1, 1, 0, 0, 199);
        strongRing(x, 20);
        x.pour(1, 10);
        x.pour(1, 100);
        x.pour(1, -39);
        x.hours(1);
        // 90 by 8: 11 goes down, 21 and 89; -128 by 8: 16 go up, 73 and -23; 33 by 16: -21
        DUE.due("lowest", x.layer(0, 1), 21);
        DUE.due("middle", x.layer(1, 1), 73);
        DUE.due("uppermost", x.layer(2, 1), -21);
        Used y = tank(1, 1, 0, 0, 199);
        strongRing(y, 20);
        y.pour(1, 40);
        y.pour(1, 25);
        y.air(0);
        y.hours(1);
        // -15 by 8 is -1: 39 and 26; -26 by 16 is -1
        DUE.due("towards 0, lower", y.layer(0, 1), 39);
        DUE.due("towards 0, upper", y.layer(1, 1), 25);
        y.hours(2);
        // 39 25: 38 26, 25; then 37 26, 25
        DUE.due("third hour, lower", y.layer(0, 1), 37);
        DUE.due("third hour, upper", y.layer(1, 1), 25);
    }

    private static void gasWorks() {
        Used x = tank(1, 1, 0, 1, 20);
        strongRing(x, 20);
        x.pour(1, 0);
        x.pour(1, 32);
        x.pour(1, 64);
        x.air(64);
        x.hours(1);
        // 4 goes down: 4 28 64; 36 by 8 is 4: 4 32 60; air adds 0: 28 and 28 warmer
        DUE.due("two pairs, less vent", x.count(4), 3);
        DUE.due("load with gas", x.told(0, 0), 6);
        Used y = tank(1, 1, 0, 0, 28);
        strongRing(y, 20);
        y.pour(1, 0);
        y.pour(1, 32);
        y.pour(1, 64);
        y.air(64);
        y.hours(1);
        DUE.due("warmer by just so much", y.count(4), 4);
        Used z = tank(1, 1, 0, 0, 29);
        strongRing(z, 20);
        z.pour(1, 0);
        z.pour(1, 32);
        z.pour(1, 64);
        z.air(64);
        z.hours(1);
        DUE.due("not so much warmer", z.count(4), 0);
    }

    private static void gasWithoutLayers() {
        Used x = tank(3, 1, 0, 1, 1);
        strongRing(x, 20);
        x.pour(1, -50);
        x.pour(1, 199);
        x.pour(1, 199);
        x.pour(1, -50);
        x.air(99);
        x.hours(4);
        // only the second is warmer than the one below: 2 less 1 each hour
        DUE.due("gas", x.count(4), 4);
        x.draw(4);
        DUE.due("gas stays", x.count(4), 4);
        DUE.due("load by gas alone", x.told(0, 0), 12);
        x.hours(3);
        DUE.due("vent alone", x.count(4), 1);
        x.hours(3);
        DUE.due("0 at least", x.count(4), 0);
    }

    private static void gasIsBounded() {
        Used x = tank(1, 1, 0, 0, 1);
        strongRing(x, 20);
        strongRing(x, 20);
        for (int n = 0; n < 30; n++) {
            x.pour(1, n * 8 - 50);
        }
        x.air(99);
        for (int n = 0; n < 4 && x.count(4) < 9999; n++) {
            for (int more = 0; more < 20; more++) {
                x.hours(10);
                x.draw(1);
                x.pour(1, 199);
            }
        }
        DUE.due("9999 at most", x.count(4), 9999);
    }

    private static void steelAndPlate() {
        Used x = tank(1, 1, 0, 0, 199);
        DUE.due("ring", x.ring(3, 9, 7, 11, 20, 3, 9999, 1), 0);
        DUE.due("ring", x.ring(3, 9, 7, 11, 20, 3, 20, 1), 1);
        // 77 * 7 by 10: 53; air 10 is below 20: 26
        DUE.due("steel is air", x.told(0, 2), 10);
        DUE.due("brittle plate", x.told(0, 3), 26);
        DUE.due("rivets bear less", x.told(1, 1), 20);
        DUE.due("the plate of it", x.told(1, 3), 26);
        x.pour(3, 30);
        DUE.due("steel by a layer", x.told(0, 2), 20);
        DUE.due("as warm as brittle is not below", x.told(0, 3), 53);
        DUE.due("no layer at its foot", x.told(1, 2), 10);
        x.pour(1, -45);
        DUE.due("upper steel, towards 0", x.told(1, 2), -17);
        x.draw(3);
        DUE.due("lower steel", x.told(0, 2), -17);
        DUE.due("upper steel is air", x.told(1, 2), 10);
        DUE.due("told -1", x.told(-1, 0), -1000);
        DUE.due("told 2", x.told(2, 0), -1000);
        DUE.due("what -1", x.told(0, -1), -1000);
        DUE.due("what 6", x.told(0, 6), -1000);
    }

    private static void fillingsTire() {
        Used x = tank(1, 1, 15, 0, 199);
        x.ring(20, 9, 10, 4, -50, 0, 9999, 1);
        x.pour(1, 10);
        DUE.due("one filling", x.told(0, 3), 25);
        x.pour(1, 10);
        DUE.due("two", x.told(0, 3), 10);
        DUE.due("not burst", x.count(7), -1);
        x.pour(1, 10);
        DUE.due("0 at least", x.told(0, 3), 0);
        DUE.due("burst by tiring", x.count(7), 0);
        DUE.due("by which load", x.told(0, 5), 3);
        DUE.due("three fillings", x.count(6), 3);
    }

    private static void burstByPour() {
        Used x = tank(1, 10, 0, 0, 199);
        x.ring(10, 9, 5, 10, -50, 0, 9999, 1);
        x.ring(10, 9, 5, 10, -50, 0, 9999, 1);
        x.pour(5, 10);
        DUE.due("as much as it bears", x.count(7), -1);
        DUE.due("stood", x.told(0, 4), 50);
        DUE.due("no load of burst", x.told(0, 5), -1);
        x.hours(7);
        DUE.due("the pour that bursts", x.pour(1, 10), 6);
        DUE.due("the ring", x.count(7), 0);
        DUE.due("the hour", x.count(8), 7);
        DUE.due("stood stays", x.told(0, 4), 50);
        DUE.due("the load", x.told(0, 5), 60);
        DUE.due("none of the other", x.told(1, 5), -1);
        DUE.due("no pour", x.pour(1, 10), -1);
        DUE.due("no draw", x.draw(1), -1);
        DUE.due("no ring", strongRing(x, 1), -1);
        DUE.due("hours", x.hours(9), 16);
        DUE.due("the hour stays", x.count(8), 7);
        DUE.due("air is told", x.air(-50), 10);
        x.hours(9);
        DUE.due("nothing cools", x.layer(0, 1), 10);
    }

    private static void burstByHour() {
        Used x = tank(1, 1, 0, 0, 1);
        x.ring(10, 9, 1, 5, -50, 0, 9999, 1);
        x.pour(1, -50);
        x.pour(1, 199);
        DUE.due("5 hours", x.hours(5), 5);
        // each hour 2 of gas: 4, then 6 above 5 in the second
        DUE.due("the ring", x.count(7), 0);
        DUE.due("the hour", x.count(8), 2);
        DUE.due("gas stays from then on", x.count(4), 4);
        DUE.due("stood", x.told(0, 4), 4);
        DUE.due("load", x.told(0, 5), 6);
    }

    private static void burstByAir() {
        Used x = tank(1, 10, 0, 0, 199);
        x.ring(10, 9, 10, 10, 5, 0, 9999, 1);
        x.pour(8, 10);
        DUE.due("stands", x.count(7), -1);
        DUE.due("air 0", x.air(0), 10);
        DUE.due("as warm as brittle", x.count(7), -1);
        DUE.due("air -2", x.air(-2), 0);
        DUE.due("burst", x.count(7), 0);
        DUE.due("in hour 0", x.count(8), 0);
        DUE.due("stood", x.told(0, 4), 80);
        DUE.due("load", x.told(0, 5), 80);
    }

    private static void burstSeeksLowest() {
        Used x = tank(1, 10, 0, 0, 199);
        strongRing(x, 5);
        x.ring(5, 9, 1, 1, -50, 0, 9999, 1);
        x.ring(5, 9, 1, 1, -50, 0, 9999, 1);
        x.pour(15, 10);
        DUE.due("the lowest that bears less", x.count(7), 1);
        DUE.due("its load", x.told(1, 5), 100);
        DUE.due("the one above has none", x.told(2, 5), -1);
        DUE.due("the one below never stood", x.told(0, 4), 0);
    }

    private static void burstNotByDrawOrRing() {
        Used x = tank(1, 10, 0, 0, 199);
        x.ring(10, 9, 10, 10, 20, 0, 9999, 1);
        x.pour(1, 40);
        x.pour(7, 0);
        DUE.due("warm below", x.count(7), -1);
        DUE.due("cold below", x.draw(1), 7);
        DUE.due("bears less than its load", x.told(0, 1), 50);
        DUE.due("its load", x.told(0, 0), 70);
        DUE.due("no burst behind it", x.count(7), -1);
        DUE.due("a ring comes", strongRing(x, 1), 1);
        DUE.due("no burst behind that", x.count(7), -1);
        DUE.due("air is told", x.air(10), 10);
        DUE.due("burst", x.count(7), 0);
    }

    private static void stoodAtItsComing() {
        Used x = tank(3, 1, 0, 0, 1);
        strongRing(x, 10);
        x.pour(1, -50);
        x.pour(1, 199);
        x.hours(2);
        DUE.due("gas", x.count(4), 4);
        DUE.due("a weak ring comes", x.ring(1, 1, 1, 1, -50, 0, 1, 1), 1);
        DUE.due("load by gas", x.told(1, 0), 12);
        DUE.due("stood it", x.told(1, 4), 12);
        DUE.due("no burst yet", x.count(7), -1);
        x.hours(1);
        DUE.due("burst", x.count(7), 1);
        DUE.due("stood stays", x.told(1, 4), 12);
    }

    private static void countsAndLayers() {
        Used x = tank(1, 1, 0, 0, 199);
        strongRing(x, 9);
        x.pour(4, 20);
        x.hours(2);
        x.story("when 1=1");
        x.story("prior 2");
        x.rule("must 1 every 1");
        x.witness(1, 1, 1);
        x.witness(2, 1, 1);
        x.witness(2, 1, 1);
        x.feed(0, 0, 0, 0, 0);
        int[] counts = {2, 1, 1, 4, 0, 10, 1, -1, -1, 2, 1, 3, 20};
        for (int what = 0; what < counts.length; what++) {
            DUE.due("count " + what, x.count(what), counts[what]);
        }
        DUE.due("count -1", x.count(-1), -1000);
        DUE.due("count 13", x.count(13), -1000);
        DUE.due("layer -1", x.layer(-1, 0), -1000);
        DUE.due("layer 1", x.layer(1, 0), -1000);
        DUE.due("what -1", x.layer(0, -1), -1000);
        DUE.due("what 2", x.layer(0, 2), -1000);
        DUE.due("feet", x.layer(0, 0), 4);
    }

    private static void nearest() {
        Used x = tank(1, 10, 0, 0, 199);
        x.ring(5, 1, 100, 10, -50, 0, 9999999, 1);
        x.ring(5, 1, 50, 10, -50, 0, 9999999, 1);
        DUE.due("no load: the lowest", x.nearest(), 0);
        x.pour(10, 10);
        DUE.due("100 by 1000 as 50 by 500", x.nearest(), 0);
        x.draw(10);
        x.ring(5, 1, 50, 10, -50, 0, 249, 1);
        x.pour(15, 10);
        // 150 by 1000, 100 by 500, 50 by 249
        DUE.due("above by little", x.nearest(), 2);
        x.draw(15);
        x.ring(5, 1, 1, 1, -50, 5, 9, 1);
        DUE.due("bears nothing: above all", x.told(3, 1), 0);
        DUE.due("nearest", x.nearest(), 3);
        Used y = tank(1, 10, 999, 0, 199);
        y.ring(5, 1, 1, 1, -50, 0, 9, 1);
        y.ring(5, 1, 1, 1, -50, 0, 9, 1);
        strongRing(y, 5);
        y.pour(4, 10);
        DUE.due("both bear nothing: by load", y.nearest(), 0);
        Used z = tank(1, 10, 0, 0, 199);
        strongRing(z, 5);
        z.ring(5, 1, 1, 1, -50, 5, 9, 1);
        z.ring(5, 1, 1, 1, -50, 5, 9, 1);
        DUE.due("both alike: the lowest", z.nearest(), 1);
        Used v = tank(1, 1, 0, 0, 199);
        v.ring(1, 1, 1, 4, -50, 0, 9, 1);
        v.ring(1, 1, 1, 1, -50, 0, 9, 1);
        v.pour(2, 10);
        DUE.due("2 by 4, 1 by 1", v.nearest(), 1);
    }
}
