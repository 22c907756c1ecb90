import java.util.List;

/** Boundary sentences of promises 1 to 11: a new object, begin, ring, pour, draw, air, hours, and what they leave. */
final class TankEdges extends Edges {
    TankEdges(Words words) {
        super(words);
    }

    // Promise 1: a new object

    void p01NoTank() {
        says("No TANK");
        Used x = new Used();
        due("ring", x.ring(5, 30, 20, 50, 0, 2, 9000, 3), -1);
        due("pour", x.pour(1, 1), -1);
        due("draw", x.draw(1), -1);
        for (int what = 1; what <= 6; what++) {
            due("count " + what, x.count(what), what == 5 ? 10 : 0);
        }
        due("the ring that burst", x.count(7), -1);
        due("its hour", x.count(8), -1);
        due("layer", x.layer(0, 0), -1000);
        due("told", x.told(0, 0), -1000);
        due("nearest", x.nearest(), -1);
        due("span", x.span(0, 0), -1000);
        due("trial", x.trial(0, 1), -1);
        due("needed", x.needed(0, 1), -1);
        due("more", x.more(), -1);
        due("thicker", x.thicker(0), -1);
    }

    void p01NoTexts() {
        says("no texts");
        Used x = new Used();
        due("stories", x.count(9), 0);
        due("rules", x.count(10), 0);
        due("bytes of the tape", x.count(12), 0);
        x.begin(1, 1, 0, 0, 1);
        Scenes.strongRing(x, 1);
        due("fits", x.fits(0, 0), -1);
        due("chance", x.chance(0, 0, 0), -1);
        due("weight", x.weight(0, 0), -1);
        due("odds", x.odds(0, 0), -1);
        due("made", x.made(0, 0, 0, 1), -1);
        due("owed", x.owed(), 0);
    }

    void p01EvenStreets() {
        says("even STREETS");
        Used x = new Used();
        for (int n = 0; n < 144; n++) {
            due("level of " + n, x.place(n % 12, n / 12, 1), 0);
        }
    }

    void p01NowAtFirst() {
        says("HOURS 0 to 99999; NOW (0 at first).");
        due("now", new Used().count(0), 0);
        due("no hour more", new Used().hours(0), 0);
    }

    void p01AirAtFirst() {
        says("AIR: heat (-50 to 99; 10 at first).");
        due("air", new Used().count(5), 10);
    }

    void p01GasAtFirst() {
        says("GAS (0 at first).");
        due("gas", new Used().count(4), 0);
        Used x = Scenes.tall();
        due("load by gas alone", x.told(0, 0), 0);
    }

    void p01TheConstant() {
        says("The constants: `NONE = -1`: None.");
        due("NONE", TreacleTank.NONE, -1);
    }

    // Promise 2: begin

    void p02Radius() {
        says("A TANK is begun with a radius (1 to 99)");
        limits(Scenes::rich, 1, 99, (x, n) -> yes(x.begin(n, 5, 3, 1, 20)), n -> 1, 0);
    }

    void p02Weight() {
        says("a weight of each foot (1 to 99)");
        limits(Scenes::rich, 1, 99, (x, n) -> yes(x.begin(10, n, 3, 1, 20)), n -> 1, 0);
    }

    void p02Tire() {
        says("TIRE (0 to 999)");
        limits(Scenes::rich, 0, 999, (x, n) -> yes(x.begin(10, 5, n, 1, 20)), n -> 1, 0);
    }

    void p02Vent() {
        says("VENT (0 to 99)");
        limits(Scenes::rich, 0, 99, (x, n) -> yes(x.begin(10, 5, 3, n, 20)), n -> 1, 0);
    }

    void p02Warm() {
        says("WARM (1 to 199).");
        limits(Scenes::rich, 1, 199, (x, n) -> yes(x.begin(10, 5, 3, 1, n)), n -> 1, 0);
    }

    private static Used begunAnew() {
        Used x = Scenes.rich();
        x.begin(2, 3, 7, 0, 1);
        return x;
    }

    void p02InPlaceOfOne() {
        says("A TANK is begun in place of one there was", ": true;");
        Used x = Scenes.rich();
        due("begin", x.begin(2, 3, 7, 0, 1), true);
        Scenes.strongRing(x, 4);
        x.pour(4, 0);
        due("load by the new measures", x.told(0, 0), 24);
    }

    void p02NoRings() {
        says("(no RINGS, LAYERS, GAS, FILLINGS;");
        Used x = begunAnew();
        due("none", x.count(1), 0);
        due("the old one", x.told(0, 0), -1000);
        due("nearest", x.nearest(), -1);
        due("nothing is poured without one", x.pour(1, 0), -1);
        due("a ring is the first again", Scenes.strongRing(x, 4), 0);
        due("it has not stood what the old one stood", x.told(0, 4), 0);
        due("no higher than its own rings", x.pour(5, 0), -1);
        due("as high as these", x.pour(4, 0), 4);
    }

    void p02NoLayers() {
        says("(no RINGS, LAYERS, GAS, FILLINGS;");
        Used x = begunAnew();
        due("none", x.count(2), 0);
        due("no depth", x.count(3), 0);
        due("the old one", x.layer(0, 0), -1000);
        Scenes.strongRing(x, 4);
        due("nothing to draw off", x.draw(1), -1);
        due("no load", x.told(0, 0), 0);
        due("steel by air alone", x.told(0, 2), 12);
    }

    void p02NoGas() {
        says("(no RINGS, LAYERS, GAS, FILLINGS;");
        due("gas of the old one", Scenes.rich().count(4), 4);
        due("none", begunAnew().count(4), 0);
    }

    void p02NoFillings() {
        says("(no RINGS, LAYERS, GAS, FILLINGS;");
        Used x = begunAnew();
        due("none", x.count(6), 0);
        x.ring(4, 1, 10, 10, -50, 0, 9999, 1);
        due("not tired", x.told(0, 3), 100);
        x.pour(1, 0);
        due("tired once", x.told(0, 3), 93);
    }

    void p02NowAndAirStay() {
        says("NOW and AIR stay)");
        Used x = Scenes.rich();
        x.begin(2, 3, 0, 0, 1);
        due("now", x.count(0), 4);
        due("air", x.count(5), 12);
    }

    void p02InPlaceOfABurstOne() {
        says("A TANK is begun in place of one there was");
        Used x = Scenes.burst();
        due("begin", x.begin(1, 1, 0, 0, 1), true);
        due("not burst", x.count(7), -1);
        due("no hour of it", x.count(8), -1);
        due("a ring comes", Scenes.strongRing(x, 4), 0);
        due("its load of a burst", x.told(0, 5), -1);
        due("it is filled", x.pour(1, 0), 1);
        due("and drawn off", x.draw(1), 0);
    }

    void p02Refused() {
        says("false, and nothing happens, for others.");
        refused(Used::new, "no tank by a wrong begin", x -> yes(x.begin(0, 1, 0, 0, 1)), 0);
        refused(Scenes::burst, "a burst one stays", x -> yes(x.begin(1, 1, 0, 0, 0)), 0);
        Used x = new Used();
        x.begin(1, 100, 0, 0, 1);
        due("a ring behind a wrong begin", Scenes.strongRing(x, 1), -1);
    }

    // Promise 3: ring

    void p03Feet() {
        says("feet high (1 to 20)");
        limits(Scenes::rich, 1, 20, (x, n) -> x.ring(n, 30, 20, 50, 0, 2, 9000, 3), n -> 2, -1);
    }

    void p03Drawn() {
        says("thick as DRAWN, as BUILT (1 to 999 each)");
        limits(Scenes::rich, 1, 999, (x, n) -> x.ring(5, n, 20, 50, 0, 2, 9000, 3), n -> 2, -1);
    }

    void p03Built() {
        says("thick as DRAWN, as BUILT (1 to 999 each)");
        limits(Scenes::rich, 1, 999, (x, n) -> x.ring(5, 30, n, 50, 0, 2, 9000, 3), n -> 2, -1);
    }

    void p03Strength() {
        says("strength of the steel (1 to 999)");
        limits(Scenes::rich, 1, 999, (x, n) -> x.ring(5, 30, 20, n, 0, 2, 9000, 3), n -> 2, -1);
    }

    void p03Brittle() {
        says("BRITTLE below so much heat (-50 to 99)");
        limits(Scenes::rich, -50, 99, (x, n) -> x.ring(5, 30, 20, 50, n, 2, 9000, 3), n -> 2, -1);
    }

    void p03Holes() {
        says("HOLES (0 to 9)");
        limits(Scenes::rich, 0, 9, (x, n) -> x.ring(5, 30, 20, 50, 0, n, 9000, 3), n -> 2, -1);
    }

    void p03Rivets() {
        says("RIVETS (1 to 9999999).");
        limits(Scenes::rich, 1, 9999999, (x, n) -> x.ring(5, 30, 20, 50, 0, 2, n, 3), n -> 2, -1);
    }

    void p03Coins() {
        says("its coins (1 to 99; told with the RING)");
        limits(Scenes::rich, 1, 99, (x, n) -> x.ring(5, 30, 20, 50, 0, 2, 9000, n), n -> 2, -1);
    }

    void p03NotAsTold() {
        says("or something is not as told.");
        refused(Scenes::rich, "nothing as told", x -> x.ring(0, 0, 0, 0, -51, -1, 0, 0), -1);
        refused(() -> Scenes.tank(1, 1, 0, 0, 1), "all too large",
                x -> x.ring(21, 1000, 1000, 1000, 100, 10, 10000000, 100), -1);
    }

    void p03ItsNumber() {
        says("A RING: its number;");
        Used x = Scenes.tank(1, 1, 0, 0, 1);
        for (int n = 0; n < 7; n++) {
            due("ring", Scenes.strongRing(x, 1), n);
        }
    }

    void p03NoTank() {
        says("NONE: no TANK,");
        refused(Used::new, "ring", x -> Scenes.strongRing(x, 1), -1);
    }

    void p03HasBurst() {
        says("it has BURST,", "no RING comes more.");
        refused(Scenes::burst, "ring", x -> Scenes.strongRing(x, 1), -1);
    }

    void p03ThereAreSeven() {
        says("there are 7,", "Then it gets RINGS, 7 at most,");
        due("seven", Scenes.tall().count(1), 7);
        refused(Scenes::tall, "an eighth", x -> Scenes.strongRing(x, 1), -1);
        Used x = Scenes.tall();
        Scenes.strongRing(x, 20);
        due("no higher by an eighth", x.trial(141, 1), -1);
    }

    void p03OneUponTheOther() {
        says("one upon the other: feet high");
        Used x = Scenes.tank(1, 1, 0, 0, 1);
        Scenes.strongRing(x, 1);
        Scenes.strongRing(x, 20);
        Scenes.strongRing(x, 3);
        x.pour(24, 10);
        due("lowest", x.told(0, 0), 24);
        due("from 1 on", x.told(1, 0), 23);
        due("from 21 on", x.told(2, 0), 3);
    }

    void p03NoBurstByItsComing() {
        says("It BURSTS as soon as a RING's LOAD is above what it BEARS: behind a POURING, behind each HOUR,"
                + " behind AIR is told,");
        Used x = gasOfFour();
        due("a weak ring comes", x.ring(1, 1, 1, 1, -50, 0, 1, 1), 1);
        due("its load", x.told(1, 0), 12);
        due("what it bears", x.told(1, 1), 1);
        due("not burst behind its coming", x.count(7), -1);
        x.hours(1);
        due("but behind an hour", x.count(7), 1);
    }

    /** Radius 3, a strong ring, two layers of a foot, gas 4 in hour 2, and 2 more of it each hour. */
    private static Used gasOfFour() {
        Used x = Scenes.tank(3, 1, 0, 0, 7);
        Scenes.strongRing(x, 10);
        x.pour(1, 10);
        x.pour(1, 17);
        x.hours(2);
        return x;
    }

    // Promise 4: pour

    void p04Feet() {
        says("POURED: a LAYER of feet (1 to 99)");
        limits(Scenes::tall, 1, 99, (x, n) -> x.pour(n, 10), n -> n, -1);
    }

    void p04Heat() {
        says("with a heat (-50 to 199)");
        limits(Scenes::tall, -50, 199, (x, n) -> x.pour(1, n), n -> 1, -1);
        for (int heat : new int[] {-50, 199}) {
            Used x = Scenes.tall();
            x.pour(1, heat);
            due("its heat", x.layer(0, 1), heat);
        }
    }

    void p04UponTheOthers() {
        says("comes upon the others", "LAYERS of liquid, 30 at most, one upon the other, each of feet and a heat.");
        Used x = Scenes.threeLayers();
        x.pour(7, 70);
        due("feet of the uppermost", x.layer(3, 0), 7);
        due("its heat", x.layer(3, 1), 70);
        due("feet of the lowest", x.layer(0, 0), 3);
        x.pour(1, 70);
        due("as warm, and yet a layer of its own", x.count(2), 5);
    }

    void p04NotAboveTheRings() {
        says("(not above the height of all RINGS)");
        Used x = Scenes.tall();
        x.pour(99, 10);
        due("as high as the rings", x.pour(41, 10), 140);
        refused(() -> {
            Used y = Scenes.tall();
            y.pour(99, 10);
            return y;
        }, "a foot higher", y -> y.pour(42, 10), -1);
        refused(Scenes::threeLayers, "a foot higher than one ring", y -> y.pour(11, 10), -1);
    }

    void p04WithoutRings() {
        says("NONE, and nothing happens, if it can't be");
        refused(() -> Scenes.tank(1, 1, 0, 0, 1), "no ring", x -> x.pour(1, 10), -1);
        refused(Used::new, "no tank", x -> x.pour(1, 10), -1);
    }

    void p04FillingsGrow() {
        says("FILLINGS grow by 1.");
        Used x = Scenes.threeLayers();
        due("three", x.count(6), 3);
        x.draw(10);
        due("drawn off, they stay", x.count(6), 3);
        x.pour(1, 10);
        due("four", x.count(6), 4);
        x.pour(20, 10);
        due("not by a refused one", x.count(6), 4);
    }

    void p04ThirtyLayers() {
        says("(30 LAYERS, too).", "LAYERS of liquid, 30 at most,");
        due("thirty", Scenes.thirtyLayers(0, 1).count(2), 30);
        refused(() -> Scenes.thirtyLayers(0, 1), "a thirty-first", x -> x.pour(1, 10), -1);
        Used x = Scenes.thirtyLayers(0, 1);
        x.draw(1);
        due("in place of one that is gone", x.pour(1, 10), 30);
        due("thirty again", x.count(2), 30);
    }

    void p04Depth() {
        says("POURED: DEPTH;");
        Used x = Scenes.tall();
        due("first", x.pour(3, 10), 3);
        due("second", x.pour(99, 10), 102);
        due("that which bursts, too", burstBy(6), 6);
    }

    /** DEPTH behind a pouring into a ring that bears 5 feet. */
    private static int burstBy(int feet) {
        Used x = Scenes.tank(1, 1, 0, 0, 199);
        x.ring(20, 9, 1, 5, -50, 0, 9999, 1);
        return x.pour(feet, 10);
    }

    void p04BurstsAbove() {
        says("It BURSTS as soon as a RING's LOAD is above what it BEARS: behind a POURING");
        Used x = Scenes.tank(1, 1, 0, 0, 199);
        x.ring(20, 9, 1, 5, -50, 0, 9999, 1);
        x.pour(5, 10);
        due("as much as it bears", x.count(7), -1);
        x.pour(1, 10);
        due("above it", x.count(7), 0);
        due("in the hour", x.count(8), 0);
        due("a filling all the same", x.count(6), 2);
    }

    void p04BurstsByTheLowest() {
        says("by the lowest such RING");
        Used x = Scenes.tank(1, 1, 0, 0, 199);
        Scenes.strongRing(x, 5);
        x.ring(5, 9, 1, 1, -50, 0, 9999, 1);
        x.ring(5, 9, 1, 1, -50, 0, 9999, 1);
        x.pour(15, 10);
        due("of three the second", x.count(7), 1);
    }

    void p04NothingIsPoured() {
        says("from then on nothing is poured or drawn off,");
        refused(Scenes::burst, "pour", x -> x.pour(1, 10), -1);
    }

    // Promise 5: draw

    void p05FeetFromOneOn() {
        says("DRAWN OFF (feet from 1 on): DEPTH;");
        due("1", Scenes.threeLayers().draw(1), 9);
        for (int feet : new int[] {0, -1, Integer.MIN_VALUE}) {
            refused(Scenes::threeLayers, feet + " feet", x -> x.draw(feet), -1);
        }
    }

    void p05MoreThanThereIs() {
        says("(more than there is, too).");
        due("as much as there is", Scenes.threeLayers().draw(10), 0);
        for (int feet : new int[] {11, 20, 21, Integer.MAX_VALUE}) {
            refused(Scenes::threeLayers, feet + " feet", x -> x.draw(feet), -1);
        }
    }

    void p05NothingThere() {
        says("NONE, and nothing happens, if it can't be");
        refused(Used::new, "no tank", x -> x.draw(1), -1);
        refused(Scenes::tall, "no liquid", x -> x.draw(1), -1);
        refused(Scenes::tall, "no feet of no liquid", x -> x.draw(0), -1);
    }

    void p05FromTheLowestOn() {
        says("DRAWN OFF: so many feet go from the lowest on,");
        Used x = Scenes.threeLayers();
        due("less than the lowest has", x.draw(2), 8);
        due("three layers still", x.count(2), 3);
        due("feet left in the lowest", x.layer(0, 0), 1);
        due("heat of it", x.layer(0, 1), 30);
        due("the next one is whole", x.layer(1, 0), 4);
    }

    void p05UpToAll() {
        says("up to all");
        Used x = Scenes.threeLayers();
        due("all", x.draw(10), 0);
        due("depth", x.count(3), 0);
        due("no layer", x.count(2), 0);
        due("none to tell of", x.layer(0, 0), -1000);
        due("it may be filled again", x.pour(20, 60), 20);
        due("the new one is the lowest", x.layer(0, 1), 60);
    }

    void p05WithoutFeetIsGone() {
        says("(a LAYER without feet is gone).");
        Used x = Scenes.threeLayers();
        due("all of the lowest", x.draw(3), 7);
        due("two layers", x.count(2), 2);
        due("the next is the lowest", x.layer(0, 1), 40);
        due("two at once but for a foot", x.draw(6), 1);
        due("one layer", x.count(2), 1);
        due("its feet", x.layer(0, 0), 1);
        due("its heat", x.layer(0, 1), 50);
    }

    void p05NothingIsDrawnOff() {
        says("from then on nothing is poured or drawn off,");
        refused(Scenes::burst, "draw", x -> x.draw(1), -1);
        refused(Scenes::burst, "draw all", x -> x.draw(6), -1);
    }

    void p05NoBurstByDrawing() {
        says("It BURSTS as soon as a RING's LOAD is above what it BEARS: behind a POURING, behind each HOUR,"
                + " behind AIR is told,");
        Used x = Scenes.tank(1, 10, 0, 0, 199);
        x.ring(10, 9, 10, 10, 20, 0, 9999, 1);
        x.pour(1, 40);
        x.pour(7, 0);
        due("the cold comes down", x.draw(1), 7);
        due("load", x.told(0, 0), 70);
        due("bears", x.told(0, 1), 50);
        due("not burst behind a drawing", x.count(7), -1);
        x.hours(0);
        due("nor behind no hour", x.count(7), -1);
        x.hours(1);
        due("but behind an hour", x.count(7), 0);
    }

    // Promise 6: air

    void p06Heat() {
        says("AIR: heat (-50 to 99; 10 at first).", "AIR becomes so warm: what it was;",
                "-1000, and nothing happens, for others.");
        limits(Scenes::rich, -50, 99, Used::air, n -> 12, -1000);
        Used x = new Used();
        due("without a tank", x.air(99), 10);
        due("the most", x.air(-50), 99);
        due("the least", x.air(0), -50);
    }

    void p06BurstsBehindAir() {
        says("behind AIR is told");
        Used x = Scenes.tank(1, 10, 0, 0, 199);
        x.ring(10, 9, 10, 10, 5, 0, 9999, 1);
        x.pour(8, 10);
        due("air 0: as warm as brittle", x.air(0), 10);
        due("stands", x.count(7), -1);
        due("air -1: steel 4", x.air(-1), 0);
        due("burst", x.count(7), 0);
        due("in this hour", x.count(8), 0);
        due("by this load", x.told(0, 5), 80);
    }

    void p06BurstsThoughAsWarmAsBefore() {
        says("behind AIR is told");
        Used x = Scenes.tank(1, 10, 0, 0, 199);
        x.ring(10, 9, 10, 10, 20, 0, 9999, 1);
        x.pour(1, 40);
        x.pour(7, 0);
        x.draw(1);
        due("stands though its load is above what it bears", x.count(7), -1);
        due("a wrong heat is not told", x.air(100), -1000);
        due("stands", x.count(7), -1);
        due("the same heat is told", x.air(10), 10);
        due("burst", x.count(7), 0);
    }

    void p06BehindABurst() {
        says("AIR becomes so warm: what it was;");
        Used x = Scenes.burst();
        due("told", x.air(-50), 10);
        due("it is so", x.count(5), -50);
        due("still by the first ring", x.count(7), 0);
        due("still in that hour", x.count(8), 2);
    }

    // Promise 7: hours

    void p07FewestAndMost() {
        says("So many HOURS (0 to 500;", "go by: NOW;", "NONE, and nothing happens, for others.");
        limits(Scenes::rich, 0, 500, Used::hours, n -> 4 + n, -1);
    }

    void p07NoHour() {
        says("So many HOURS (0 to 500;");
        List<String> changes = Look.changes(Look.at(Scenes.rich()), lookBehind(Scenes.rich(), 0));
        due("what no hour changes: " + changes, changes.size(), 0);
    }

    private static List<String> lookBehind(Used x, int hours) {
        x.hours(hours);
        return Look.at(x);
    }

    void p07NowAtMost() {
        says("NOW to 99999 at most)", "HOURS 0 to 99999;");
        limits(Scenes::late, 0, 499, Used::hours, n -> 99500 + n, -1);
        Used x = Scenes.late();
        x.hours(499);
        due("one more than the last", x.hours(1), -1);
        due("none more", x.hours(0), 99999);
    }

    void p07WithoutATank() {
        says("So many HOURS (0 to 500;");
        Used x = new Used();
        due("hours", x.hours(500), 500);
        due("no gas", x.count(4), 0);
        due("air", x.count(5), 10);
    }

    private void heats(int lower, int upper, int lowerThen, int upperThen) {
        Used x = Scenes.tank(1, 1, 0, 0, 199);
        Scenes.strongRing(x, 20);
        x.pour(1, lower);
        x.pour(1, upper);
        // air as warm as the upper becomes, so that it changes nothing
        x.air(upperThen);
        x.hours(1);
        due("lower of " + lower + " and " + upper, x.layer(0, 1), lowerThen);
        due("upper of " + lower + " and " + upper, x.layer(1, 1), upperThen);
    }

    void p07ByEightTowardsZero() {
        says("(upper heat less lower heat) by 8, towards 0, goes from the upper to the lower;");
        heats(0, 7, 0, 7);
        heats(0, 8, 1, 7);
        heats(0, 15, 1, 14);
        heats(0, 16, 2, 14);
        heats(0, -7, 0, -7);
        heats(0, -8, -1, -7);
        heats(0, -15, -1, -14);
        heats(0, -16, -2, -14);
        heats(-50, 73, -35, 58);
        heats(5, 5, 5, 5);
    }

    void p07FromTheLowestTwoOn() {
        says("An HOUR: of each two LAYERS one upon the other, from the lowest two on, one after the other,");
        Used x = Scenes.tank(1, 1, 0, 0, 199);
        Scenes.strongRing(x, 20);
        x.pour(1, 0);
        x.pour(1, 80);
        x.pour(1, 160);
        x.air(99);
        x.hours(1);
        // 10 go down from 80; then 90 by 8 from 160; then -50 by 16
        due("lowest", x.layer(0, 1), 10);
        due("middle", x.layer(1, 1), 81);
        due("uppermost", x.layer(2, 1), 146);
    }

    private void alone(int heat, int air, int then) {
        Used x = Scenes.tank(1, 1, 0, 0, 199);
        Scenes.strongRing(x, 20);
        x.pour(1, heat);
        x.air(air);
        x.hours(1);
        due("a layer " + heat + " warm by an air of " + air, x.layer(0, 1), then);
    }

    void p07UppermostBySixteen() {
        says("then the uppermost grows by (AIR less its heat) by 16, towards 0.");
        alone(25, 10, 25);
        alone(26, 10, 25);
        alone(-5, 10, -5);
        alone(-6, 10, -5);
        alone(199, -50, 184);
        alone(-50, 99, -41);
    }

    void p07UppermostAlone() {
        says("then the uppermost grows by (AIR less its heat) by 16, towards 0.");
        Used x = Scenes.tank(1, 1, 0, 0, 199);
        Scenes.strongRing(x, 20);
        x.pour(1, 0);
        x.pour(1, 0);
        x.air(99);
        x.hours(1);
        due("the lower has no air upon it", x.layer(0, 1), 0);
        due("the upper has", x.layer(1, 1), 6);
    }

    private int gasOf(int warm, int vent, int... heats) {
        Used x = Scenes.tank(1, 1, 0, vent, warm);
        Scenes.strongRing(x, 20);
        for (int heat : heats) {
            x.pour(1, heat);
        }
        x.hours(1);
        return x.count(4);
    }

    void p07WarmerByWarmOrMore() {
        says("GAS grows by 2 for each two LAYERS of which now the upper is warmer by WARM or more,");
        due("by a little less", gasOf(8, 0, 10, 17), 0);
        due("by just so much", gasOf(7, 0, 10, 17), 2);
        due("by more", gasOf(6, 0, 10, 17), 2);
        due("as warm", gasOf(1, 0, 10, 10), 0);
        due("colder", gasOf(1, 0, 17, 10), 0);
        due("one layer alone", gasOf(1, 0, 17), 0);
        due("two twos", gasOf(7, 0, 4, 11, 18), 4);
        due("one two of three", gasOf(7, 0, 10, 17, 10), 2);
        due("not those that do not touch", gasOf(9, 0, 4, 11, 18), 0);
    }

    void p07WarmerNow() {
        says("of which now the upper is warmer by WARM or more,");
        // 32 by 8 go down: 4 and 28; then -18 by 16: 27, warmer by 23
        due("no longer so much warmer", gasOf(24, 0, 0, 32), 0);
        due("just so much behind the hour", gasOf(23, 0, 0, 32), 2);
    }

    void p07LessByVent() {
        says("and is less by VENT then, 0 at least,");
        due("vent 1", gasOf(7, 1, 10, 17), 1);
        due("vent 2", gasOf(7, 2, 10, 17), 0);
        due("vent 3: 0 at least", gasOf(7, 3, 10, 17), 0);
        due("vent 99 without gas", gasOf(1, 99, 10), 0);
        due("vent 3 of 4", gasOf(7, 3, 4, 11, 18), 1);
    }

    void p07MostGas() {
        says("9999 at most.");
        Used x = Scenes.thirtyLayers(0, 1);
        x.hours(172);
        due("172 hours", x.count(4), 172 * 58);
        x.hours(1);
        due("no more than that", x.count(4), 9999);
        x.hours(500);
        due("nor later", x.count(4), 9999);
    }

    void p07MostGasBehindVent() {
        says("and is less by VENT then, 0 at least, 9999 at most.");
        Used x = Scenes.thirtyLayers(1, 1);
        x.hours(175);
        due("175 hours", x.count(4), 175 * 57);
        x.hours(1);
        due("58 more, less 1", x.count(4), 9999);
        x.hours(1);
        due("again", x.count(4), 9999);
    }

    void p07WithoutLayers() {
        says("(Without LAYERS nothing but VENT.)");
        Used x = Scenes.tank(1, 1, 0, 1, 7);
        Scenes.strongRing(x, 20);
        for (int heat : new int[] {4, 11, 18}) {
            x.pour(1, heat);
        }
        x.hours(2);
        due("gas", x.count(4), 6);
        x.draw(3);
        due("it stays", x.count(4), 6);
        due("hours", x.hours(4), 6);
        due("vent alone", x.count(4), 2);
        x.hours(3);
        due("0 at least", x.count(4), 0);
    }

    void p07BurstsBehindEachHour() {
        says("behind each HOUR,");
        Used x = Scenes.tank(1, 1, 0, 0, 7);
        x.ring(10, 9, 1, 6, -50, 0, 9999, 1);
        x.pour(1, 10);
        x.pour(1, 17);
        due("five hours at once", x.hours(5), 5);
        // gas 2, 4, 6 makes 4, 6, 8: as much as it bears in hour 2
        due("burst", x.count(7), 0);
        due("in the third", x.count(8), 3);
        due("gas of then", x.count(4), 6);
        due("load of then", x.told(0, 5), 8);
    }

    void p07NothingButNow() {
        says("no HOUR changes anything but NOW,");
        Used x = Scenes.burst();
        due("hours", x.hours(40), 42);
        List<String> changes = Look.changes(Look.at(Scenes.burst()), Look.at(x));
        due("changes: " + changes, changes.size(), 1);
        due("of now", x.count(0) == 42 && changes.get(0).startsWith("count 0 "), true);
    }

    // Promise 8: count

    void p08EachWhat() {
        says("What 0: NOW, 1: RINGS, 2: LAYERS, 3: DEPTH, 4: GAS, 5: AIR, 6: FILLINGS,",
                "9: STORIES, 10: RULES, 11: WITNESSES, 12: bytes of the TAPE.", "DEPTH: feet of all LAYERS.");
        Used x = Scenes.rich();
        // the upper layer is warmer by 64, 45, 33 and 23: each hour 2 of gas, less 1
        int[] due = {4, 2, 2, 5, 4, 12, 2, -1, -1, 2, 1, 3, 20};
        for (int what = 0; what < due.length; what++) {
            due("count " + what, x.count(what), due[what]);
        }
    }

    void p08NothingYet() {
        says("What 0: NOW, 1: RINGS, 2: LAYERS, 3: DEPTH, 4: GAS, 5: AIR, 6: FILLINGS,");
        Used x = new Used();
        for (int what : new int[] {0, 1, 2, 3, 4, 6, 9, 10, 11, 12}) {
            due("count " + what, x.count(what), 0);
        }
    }

    void p08BurstNot() {
        says("7: the RING by which it BURST (NONE), 8: the HOUR in which it did (NONE),");
        due("ring", Scenes.rich().count(7), -1);
        due("hour", Scenes.rich().count(8), -1);
    }

    void p08Burst() {
        says("7: the RING by which it BURST (NONE), 8: the HOUR in which it did (NONE),");
        Used x = Scenes.burst();
        due("ring", x.count(7), 0);
        due("hour", x.count(8), 2);
        x.hours(3);
        due("the hour stays", x.count(8), 2);
    }

    void p08Others() {
        says("-1000 for others.");
        for (int what : new int[] {-1, 13, Integer.MIN_VALUE, Integer.MAX_VALUE}) {
            refused(Scenes::rich, "count " + what, x -> x.count(what), -1000);
        }
    }

    // Promise 9: layer

    void p09FromTheLowest() {
        says("Of a LAYER (from the lowest) what 0: feet, 1: heat.");
        Used x = Scenes.threeLayers();
        int[] feet = {3, 4, 3};
        for (int n = 0; n < 3; n++) {
            due("feet of " + n, x.layer(n, 0), feet[n]);
            due("heat of " + n, x.layer(n, 1), 30 + 10 * n);
        }
        due("the thirtieth", Scenes.thirtyLayers(0, 1).layer(29, 1), 97);
    }

    void p09WithoutThese() {
        says("-1000 without these.");
        for (int n : new int[] {-1, 3, 29, 30, Integer.MIN_VALUE, Integer.MAX_VALUE}) {
            refused(Scenes::threeLayers, "layer " + n, x -> x.layer(n, 0), -1000);
        }
        for (int what : new int[] {-1, 2, Integer.MIN_VALUE, Integer.MAX_VALUE}) {
            refused(Scenes::threeLayers, "what " + what, x -> x.layer(0, what), -1000);
        }
        due("a thirty-first", Scenes.thirtyLayers(0, 1).layer(30, 0), -1000);
        Used x = Scenes.threeLayers();
        x.draw(4);
        due("one that is gone", x.layer(2, 0), -1000);
    }

    // Promise 10: told

    void p10LoadAboveItsLowerEdge() {
        says("LOAD of a RING: (feet of DEPTH above its lower edge, times weight, and GAS) times radius.",
                "Of a RING what 0: LOAD,");
        Used x = Scenes.tank(7, 3, 0, 0, 199);
        Scenes.strongRing(x, 5);
        Scenes.strongRing(x, 5);
        x.pour(4, 10);
        due("below its edge", x.told(1, 0), 0);
        x.pour(1, 10);
        due("up to its edge", x.told(1, 0), 0);
        x.pour(1, 10);
        due("a foot above", x.told(1, 0), 21);
        due("the lower one", x.told(0, 0), 126);
    }

    void p10LoadByGas() {
        says("and GAS) times radius.");
        Used x = gasOfFour();
        Scenes.strongRing(x, 1);
        due("above the liquid by gas alone", x.told(1, 0), 12);
        due("in the liquid", x.told(0, 0), 18);
        x.draw(2);
        due("without liquid", x.told(0, 0), 12);
    }

    void p10LargestLoad() {
        says("times weight, and GAS) times radius.");
        Used x = Scenes.tank(99, 99, 0, 0, 199);
        for (int n = 0; n < 7; n++) {
            Scenes.strongRing(x, 20);
        }
        x.pour(99, 10);
        x.pour(1, 10);
        due("a hundred feet", x.told(0, 0), 980100);
        x.pour(40, 10);
        due("all full", x.told(0, 0), 1372140);
    }

    void p10SteelByTheFootAbove() {
        says("STEEL of a RING: the heat of the LAYER in which the foot above its lower edge is, and AIR,"
                + " together by 2,");
        Used x = Scenes.tank(1, 1, 0, 0, 199);
        Scenes.strongRing(x, 3);
        Scenes.strongRing(x, 3);
        x.pour(3, 30);
        x.pour(1, 50);
        due("lower", x.told(0, 2), 20);
        due("upper: the layer that begins there", x.told(1, 2), 30);
        x.draw(1);
        due("lower", x.told(0, 2), 20);
        due("upper: no layer there", x.told(1, 2), 10);
        x.draw(2);
        due("lower: another layer", x.told(0, 2), 30);
    }

    void p10SteelTowardsZero() {
        says("together by 2, towards 0;");
        Used x = Scenes.tank(1, 1, 0, 0, 199);
        Scenes.strongRing(x, 3);
        x.pour(1, -45);
        due("-45 and 10", x.told(0, 2), -17);
        x.air(-50);
        due("-45 and -50", x.told(0, 2), -47);
        x.air(46);
        due("-45 and 46", x.told(0, 2), 0);
        x.air(44);
        due("-45 and 44", x.told(0, 2), 0);
        x.air(50);
        due("-45 and 50", x.told(0, 2), 2);
    }

    void p10SteelByAirAlone() {
        says("AIR alone where there is none.");
        Used x = Scenes.tank(1, 1, 0, 0, 199);
        Scenes.strongRing(x, 3);
        Scenes.strongRing(x, 3);
        due("no liquid", x.told(0, 2), 10);
        x.air(-33);
        due("not the half of it", x.told(0, 2), -33);
        x.pour(3, 30);
        due("none at this height", x.told(1, 2), -33);
        x.pour(3, 99);
        x.draw(3);
        due("nor by one that is gone from there", x.told(1, 2), -33);
    }

    void p10SteelByAirAboveThirtyLayers() {
        says("AIR alone where there is none.");
        Used x = Scenes.thirtyLayers(0, 1);
        Scenes.strongRing(x, 1);
        due("in the twenty-first", x.told(1, 2), (70 + 99) / 2);
        due("above the thirtieth", x.told(2, 2), 99);
    }

    void p10PlateDownwards() {
        says("PLATE: BUILT times strength times (10 less HOLES) by 10, downwards,");
        due("7 times 11 times 7 by 10", plateOf(7, 11, -50, 3), 53);
        due("1 times 1 times 9 by 10", plateOf(1, 1, -50, 1), 0);
        due("1 times 10 times 1 by 10", plateOf(1, 10, -50, 9), 1);
        due("1 times 9 times 1 by 10", plateOf(1, 9, -50, 9), 0);
        due("the thickest and strongest", plateOf(999, 999, -50, 0), 998001);
        due("with a hole", plateOf(999, 999, -50, 1), 898200);
    }

    private static int plateOf(int built, int strength, int brittle, int holes) {
        Used x = Scenes.tank(1, 1, 0, 0, 199);
        x.ring(1, 1, built, strength, brittle, holes, 9999999, 1);
        return x.told(0, 3);
    }

    void p10PlateHalf() {
        says("half of that, downwards, if its STEEL is colder than BRITTLE;");
        due("as warm: whole", plateOf(7, 11, 10, 3), 53);
        due("colder: half of 53", plateOf(7, 11, 11, 3), 26);
        due("warmer: whole", plateOf(7, 11, 9, 3), 53);
        due("half of 1", plateOf(1, 1, 99, 0), 0);
    }

    void p10PlateTired() {
        says("less TIRE for each FILLING, 0 at least.");
        Used x = Scenes.tank(1, 1, 15, 0, 199);
        x.ring(20, 9, 9, 5, -50, 0, 9999, 1);
        due("no filling", x.told(0, 3), 45);
        x.pour(1, 10);
        due("one", x.told(0, 3), 30);
        x.pour(1, 10);
        due("two", x.told(0, 3), 15);
        due("stands", x.count(7), -1);
        x.pour(1, 10);
        due("three: just 0", x.told(0, 3), 0);
        due("burst", x.count(7), 0);
        Used y = Scenes.tank(1, 1, 999, 0, 199);
        y.ring(20, 9, 9, 5, -50, 0, 9999, 1);
        y.pour(1, 10);
        due("0 at least", y.told(0, 3), 0);
        due("bears 0", y.told(0, 1), 0);
    }

    void p10PlateTiredBehindTheHalf() {
        says("half of that, downwards, if its STEEL is colder than BRITTLE; less TIRE for each FILLING");
        Used x = Scenes.tank(1, 1, 3, 0, 199);
        x.ring(20, 9, 7, 11, 99, 3, 9999, 1);
        x.pour(1, 10);
        x.pour(1, 10);
        due("26 less 6", x.told(0, 3), 20);
    }

    void p10BearsTheLesser() {
        says("BEARS: the lesser of PLATE and RIVETS.", "1: BEARS, 2: STEEL, 3: PLATE,");
        for (int rivets : new int[] {49, 50, 51, 9999999, 1}) {
            Used x = Scenes.tank(1, 1, 0, 0, 199);
            x.ring(1, 1, 5, 10, -50, 0, rivets, 1);
            due("50 and " + rivets, x.told(0, 1), Math.min(50, rivets));
            due("the plate is no less", x.told(0, 3), 50);
        }
    }

    void p10StoodAtFirst() {
        says("by which the TANK did not BURST (0 at first).", "4: STOOD,");
        due("a new ring", Scenes.tall().told(6, 4), 0);
    }

    void p10StoodTheGreatest() {
        says("STOOD, of each RING: the greatest LOAD it had behind a POURING or an HOUR");
        Used x = Scenes.tank(1, 1, 0, 0, 7);
        Scenes.strongRing(x, 3);
        Scenes.strongRing(x, 9);
        x.pour(5, 10);
        due("lower", x.told(0, 4), 5);
        due("upper", x.told(1, 4), 2);
        x.draw(4);
        x.pour(2, 17);
        due("a lesser load is none", x.told(0, 4), 5);
        x.hours(1);
        due("3 feet and 2 of gas: as great", x.told(0, 4), 5);
        due("upper: 2 of gas: as great", x.told(1, 4), 2);
        x.hours(1);
        due("behind an hour", x.told(0, 4), 7);
        due("upper", x.told(1, 4), 4);
    }

    void p10StoodAtItsComing() {
        says("(or its coming)");
        Used x = gasOfFour();
        Scenes.strongRing(x, 1);
        due("gas 4 times 3", x.told(1, 4), 12);
    }

    void p10StoodNotTheBurst() {
        says("by which the TANK did not BURST");
        Used x = Scenes.burst();
        due("of the ring that burst", x.told(0, 4), 50);
        due("of the other", x.told(1, 4), 0);
        due("though its load is greater", x.told(1, 0), 10);
    }

    void p10LoadOfTheBurst() {
        says("5: the LOAD by which it BURST (NONE).");
        Used x = Scenes.burst();
        due("of the ring by which it did", x.told(0, 5), 60);
        due("of another", x.told(1, 5), -1);
        due("without a burst", Scenes.rich().told(0, 5), -1);
        x.hours(9);
        x.air(-50);
        due("it stays", x.told(0, 5), 60);
    }

    void p10WithoutThese() {
        says("-1000 without these.");
        for (int ring : new int[] {-1, 2, 6, 7, Integer.MIN_VALUE, Integer.MAX_VALUE}) {
            refused(Scenes::rich, "ring " + ring, x -> x.told(ring, 0), -1000);
        }
        for (int what : new int[] {-1, 6, Integer.MIN_VALUE, Integer.MAX_VALUE}) {
            refused(Scenes::rich, "what " + what, x -> x.told(0, what), -1000);
        }
        due("an eighth ring", Scenes.tall().told(7, 0), -1000);
        due("the seventh", Scenes.tall().told(6, 0), 0);
    }

    // Promise 11: nearest

    void p11WithoutRings() {
        says("NEAREST; NONE without RINGS.");
        due("no tank", new Used().nearest(), -1);
        due("no ring", Scenes.tank(1, 1, 0, 0, 1).nearest(), -1);
    }

    void p11GreatestLoadByBears() {
        says("NEAREST: the RING whose LOAD by BEARS is greatest");
        Used x = Scenes.tank(1, 10, 0, 0, 199);
        x.ring(5, 1, 100, 10, -50, 0, 9999999, 1);
        x.ring(5, 1, 50, 10, -50, 0, 499, 1);
        x.pour(10, 10);
        due("100 by 1000, 50 by 499", x.nearest(), 1);
    }

    void p11OfSeveralTheLowest() {
        says("of several the lowest.");
        Used x = Scenes.tank(1, 10, 0, 0, 199);
        x.ring(5, 1, 100, 10, -50, 0, 9999999, 1);
        x.ring(5, 1, 50, 10, -50, 0, 9999999, 1);
        due("no load", x.nearest(), 0);
        x.pour(10, 10);
        due("100 by 1000, 50 by 500", x.nearest(), 0);
    }

    void p11BearsNothing() {
        says("(BEARS 0: above all;");
        Used x = Scenes.tank(1, 10, 0, 0, 199);
        x.ring(5, 1, 1, 10, -50, 0, 9999999, 1);
        x.ring(5, 1, 1, 1, -50, 1, 9999999, 1);
        x.pour(1, 10);
        due("the lower bears just its load", x.told(0, 1), 10);
        due("the upper bears nothing", x.told(1, 1), 0);
        due("and has no load", x.told(1, 0), 0);
        due("above all", x.nearest(), 1);
    }

    void p11BearNothingByLoad() {
        says("then by LOAD);", "of several the lowest.");
        Used x = Scenes.tank(1, 10, 0, 0, 199);
        Scenes.strongRing(x, 5);
        x.ring(5, 1, 1, 1, -50, 1, 9999999, 1);
        x.ring(5, 1, 1, 1, -50, 1, 9999999, 1);
        due("no load: the lowest", x.nearest(), 1);
        x.pour(6, 10);
        due("10 and nothing", x.nearest(), 1);
    }

    void p11LargeNumbers() {
        says("NEAREST: the RING whose LOAD by BEARS is greatest");
        Used x = Scenes.tank(99, 99, 0, 0, 199);
        Scenes.strongRing(x, 20);
        Scenes.strongRing(x, 20);
        x.pour(21, 10);
        due("205821 and 9801, by 998001 each", x.nearest(), 0);
    }
}
