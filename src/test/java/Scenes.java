/** Objects in the states with which tests begin. */
final class Scenes {
    private Scenes() {
    }

    static Used tank(int radius, int weight, int tire, int vent, int warm) {
        Used x = new Used();
        x.begin(radius, weight, tire, vent, warm);
        return x;
    }

    static int strongRing(Used x, int feet) {
        return x.ring(feet, 10, 999, 999, -50, 0, 9999999, 1);
    }

    /** Something of everything: now 4, air 12, two rings of 5 and 6 feet, 5 feet of liquid, tape 20. */
    static Used rich() {
        Used x = tank(10, 5, 3, 1, 20);
        x.ring(5, 30, 20, 50, 0, 2, 9000, 3);
        x.ring(6, 31, 21, 51, -50, 1, 9001, 4);
        x.air(12);
        x.pour(2, 0);
        x.pour(3, 90);
        x.hours(3);
        x.trace(0, 1);
        x.trace(1, 0);
        x.look(2, 1);
        x.witness(0, 1, 1);
        x.witness(2, 3, 129);
        x.witness(3, 1, 0);
        x.ground(4, 4, 9);
        x.wave(4, 4, 500, 1, 9);
        x.minutes(3);
        x.story("prior 3; when depth>2; trace A 800; trace B 600 if depth<9; trace B 100");
        x.story("trace A 400");
        x.rule("must 2 every 5; must 3 every 2 if depth>4");
        x.mark(1);
        x.hours(1);
        x.feed(1, 2, 3, 4, 5);
        return x;
    }

    /** Seven strong rings of 20 feet, and nothing in them. */
    static Used tall() {
        Used x = tank(1, 1, 0, 0, 199);
        for (int n = 0; n < 7; n++) {
            strongRing(x, 20);
        }
        return x;
    }

    /** 3 feet 30 warm, 4 feet 40 warm and 3 feet 50 warm, in a ring of 20 feet. */
    static Used threeLayers() {
        Used x = tank(1, 1, 0, 0, 199);
        strongRing(x, 20);
        x.pour(3, 30);
        x.pour(4, 40);
        x.pour(3, 50);
        return x;
    }

    /** Thirty layers of a foot each, each 3 warmer than the one below: so little that no heat goes over. */
    static Used thirtyLayers(int vent, int warm) {
        Used x = tank(1, 1, 0, vent, warm);
        strongRing(x, 20);
        strongRing(x, 20);
        for (int n = 0; n < 30; n++) {
            x.pour(1, 10 + 3 * n);
        }
        x.air(99);
        return x;
    }

    /** Burst by ring 0 in hour 2: it bears 50, and its load is 60; layers warm and cold. */
    static Used burst() {
        Used x = tank(1, 10, 0, 0, 199);
        x.ring(5, 9, 5, 10, -50, 0, 9999, 1);
        x.ring(5, 9, 5, 10, -50, 0, 9999, 1);
        x.pour(5, 10);
        x.hours(2);
        x.pour(1, 110);
        return x;
    }

    /** A layer of a foot in a ring of 20 feet, and now is 99500. */
    static Used late() {
        Used x = tank(1, 1, 0, 0, 199);
        strongRing(x, 20);
        for (int n = 0; n < 199; n++) {
            x.hours(500);
        }
        x.pour(1, 90);
        return x;
    }
}
