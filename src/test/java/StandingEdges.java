/** Boundary sentences of promises 22 to 26: span, trial, needed, more, thicker. */
final class StandingEdges extends Edges {
    StandingEdges(Words words) {
        super(words);
    }

    /** Radius 10, weight 5, rings of 5 and 4 feet that bear 400 and 200, for 3 and 2 coins; full: 450 and 200. */
    private static Used tank() {
        Used x = Scenes.tank(10, 5, 0, 0, 199);
        x.ring(5, 1, 40, 10, -50, 0, 9999, 3);
        x.ring(4, 1, 20, 10, -50, 0, 9999, 2);
        return x;
    }

    /** One ring of 9 feet, weight 1, radius 1, and gas 6. */
    private static Used withGas() {
        Used x = Scenes.tank(1, 1, 0, 0, 7);
        x.ring(9, 1, 1, 10, -50, 0, 9999, 3);
        x.pour(1, 10);
        x.pour(1, 17);
        x.hours(3);
        return x;
    }

    // Promise 22: span

    void p22FromStood() {
        says("SPAN of what a RING could bear: from STOOD", "SPAN what 0: from,");
        Used x = tank();
        due("nothing stood", x.span(0, 0), 0);
        x.pour(6, 10);
        x.draw(3);
        due("lower", x.span(0, 0), 300);
        due("upper", x.span(1, 0), 50);
    }

    void p22ToLessThanTheBurst() {
        says("to less than the LOAD by which it BURST (of the RING by which it did; none else).",
                "1: to less than (NONE: no RING BURST, or another one).");
        Used x = tank();
        x.pour(8, 10);
        due("no ring burst", x.span(0, 1), -1);
        x.pour(1, 10);
        due("from", x.span(0, 0), 400);
        due("to less than", x.span(0, 1), 450);
        due("another one, from", x.span(1, 0), 150);
        due("another one, to", x.span(1, 1), -1);
    }

    void p22WithoutThese() {
        says("-1000 without these.");
        for (int n : new int[] {-1, 2, 7, Integer.MIN_VALUE, Integer.MAX_VALUE}) {
            refused(Scenes::rich, "ring " + n, x -> x.span(n, 0), -1000);
            refused(Scenes::rich, "ring " + n, x -> x.span(n, 1), -1000);
            refused(Scenes::rich, "what " + n, x -> x.span(0, n), -1000);
        }
    }

    // Promise 23: trial

    void p23Feet() {
        says("TRIAL with so many feet (0 to 140, the height of all RINGS at most)");
        limits(Scenes::tall, 0, 140, (x, n) -> x.trial(n, 1), n -> 0, -1);
        limits(Scenes::threeLayers, 0, 20, (x, n) -> x.trial(n, 1), n -> 0, -1);
    }

    void p23Weight() {
        says("of something of a weight (1 to 99)");
        limits(Scenes::tall, 1, 99, (x, n) -> x.trial(9, n), n -> 0, -1);
    }

    void p23WithoutRings() {
        says("NONE without these, or without RINGS.");
        due("no tank", new Used().trial(0, 1), -1);
        due("no rings", Scenes.tank(1, 1, 0, 0, 1).trial(0, 1), -1);
    }

    void p23AboveWhatTheyBear() {
        says("RINGS whose LOAD by that alone (no GAS) is above what they BEAR now.", "TRIAL: RINGS as bits;");
        Used x = tank();
        due("8 feet of 5: 400 of 400", x.trial(8, 5), 0);
        due("9 feet of 5: 450 of 400, 200 of 200", x.trial(9, 5), 1);
        due("9 feet of 6: 240 of 200", x.trial(9, 6), 3);
        due("no feet", x.trial(0, 99), 0);
        due("up to the upper one's edge", x.trial(5, 99), 1);
        due("nothing burst by it", x.count(7), -1);
    }

    void p23AllSeven() {
        says("TRIAL: RINGS as bits;");
        Used x = Scenes.tank(99, 1, 0, 0, 199);
        for (int n = 0; n < 7; n++) {
            x.ring(20, 1, 1, 1, -50, 0, 1, 1);
        }
        due("all", x.trial(140, 99), 127);
        due("all but the uppermost", x.trial(120, 99), 63);
        due("the uppermost by a foot", x.trial(121, 1), 127);
    }

    void p23TheUpperAlone() {
        says("TRIAL: RINGS as bits;");
        Used x = Scenes.tank(1, 1, 0, 0, 199);
        Scenes.strongRing(x, 5);
        x.ring(5, 1, 1, 1, -50, 0, 1, 1);
        due("2 feet of 1", x.trial(7, 1), 2);
    }

    void p23WithoutGas() {
        says("by that alone (no GAS)");
        Used x = withGas();
        due("gas", x.count(4), 6);
        due("9 of 10, not 15", x.trial(9, 1), 0);
    }

    void p23WhatTheyBearNow() {
        says("above what they BEAR now.");
        Used x = Scenes.tank(1, 1, 2, 0, 199);
        x.ring(9, 1, 1, 10, 10, 0, 9999, 1);
        due("9 of 10", x.trial(9, 1), 0);
        x.pour(1, 10);
        due("tired: 9 of 8", x.trial(9, 1), 1);
        due("tired: 8 of 8", x.trial(8, 1), 0);
        x.air(9);
        due("cold: 4 of 3", x.trial(4, 1), 1);
        due("cold: 3 of 3", x.trial(3, 1), 0);
    }

    void p23LargestLoad() {
        says("RINGS whose LOAD by that alone (no GAS) is above what they BEAR now.");
        Used x = Scenes.tank(99, 1, 0, 0, 199);
        for (int n = 0; n < 7; n++) {
            Scenes.strongRing(x, 20);
        }
        // 998001 by 9801: 101 feet are borne
        due("140 feet of 99", x.trial(140, 99), 3);
        due("101 feet", x.trial(101, 99), 0);
        due("102 feet", x.trial(102, 99), 1);
    }

    // Promise 24: needed

    void p24Weight() {
        says("NEEDED for a RING and a weight:");
        limits(StandingEdges::tank, 1, 99, (x, n) -> x.needed(0, n), n -> n == 1 ? -2 : 1, -1);
    }

    void p24FewestFeet() {
        says("the fewest feet of that by which its LOAD is not less than with all RINGS full of the liquid,"
                + " without GAS;", "NEEDED: feet;");
        Used x = tank();
        // full: 45 and 20
        due("just as heavy: all", x.needed(0, 5), 9);
        due("9 a foot: just 5", x.needed(0, 9), 5);
        due("10 a foot: 4.5", x.needed(0, 10), 5);
        due("8 a foot: 5.6", x.needed(0, 8), 6);
        due("45 a foot: just 1", x.needed(0, 45), 1);
        due("44 a foot: a little above 1", x.needed(0, 44), 2);
        due("upper, 20 a foot: 5 and 1", x.needed(1, 20), 6);
        due("upper, 19 a foot", x.needed(1, 19), 7);
    }

    void p24NoneIsEnough() {
        says("none if all RINGS full of it are not enough.", "-2: none is enough;");
        Used x = tank();
        due("as heavy", x.needed(1, 5), 9);
        due("a little lighter", x.needed(1, 4), -2);
        due("lightest", x.needed(0, 1), -2);
    }

    void p24WithoutGas() {
        says("without GAS;");
        due("9 feet of 1, not 15", withGas().needed(0, 1), 9);
    }

    void p24WithoutThese() {
        says("NONE without these.");
        for (int n : new int[] {-1, 2, 7, Integer.MIN_VALUE, Integer.MAX_VALUE}) {
            refused(StandingEdges::tank, "ring " + n, x -> x.needed(n, 9), -1);
        }
        due("no ring at all", Scenes.tank(1, 1, 0, 0, 1).needed(0, 9), -1);
    }

    // Promise 25: more

    void p25FewestCoins() {
        says("MORE: of each RING one may make BUILT thicker by 1 for its coins",
                "the fewest coins by which no LOAD of all RINGS full (without GAS) is above what they BEAR then",
                "MORE: coins;");
        due("5 thicker for 3 each; 200 of 200 needs none", tank().more(), 15);
    }

    void p25NoneNeeded() {
        says("the fewest coins by which no LOAD of all RINGS full (without GAS) is above what they BEAR then");
        due("strong enough", Scenes.tall().more(), 0);
        due("gas counts for nothing", withGas().more(), 0);
    }

    void p25RingByRing() {
        says("all by themselves, RING by RING;");
        Used x = tank();
        x.ring(1, 1, 1, 3, -50, 5, 9999, 7);
        // full: 500, 250, 50; 1.5 a step, downwards: 33 is 49, 34 is 51
        due("each by its own coins", x.more(), 10 * 3 + 5 * 2 + 33 * 7);
    }

    void p25RivetsStay() {
        says("(RIVETS stay;", "none if some RING's RIVETS do not bear it,", "-2: none is enough;");
        for (int rivets : new int[] {249, 250, 251}) {
            Used x = Scenes.tank(10, 5, 0, 0, 199);
            x.ring(5, 1, 1, 10, -50, 0, rivets, 3);
            due("250 of " + rivets, x.more(), rivets < 250 ? -2 : 72);
        }
    }

    void p25AsWarmAsNow() {
        says("as warm as now):");
        Used x = Scenes.tank(1, 10, 0, 0, 199);
        x.ring(10, 1, 9, 1, 11, 0, 9999, 2);
        due("colder than brittle: 200 by 2", x.more(), 191 * 2);
        x.air(11);
        due("as warm as brittle: 100", x.more(), 91 * 2);
    }

    void p25TiredAsNow() {
        says("is above what they BEAR then");
        Used x = Scenes.tank(1, 10, 7, 0, 199);
        x.ring(10, 1, 50, 1, -50, 0, 9999, 2);
        x.pour(1, 0);
        x.pour(1, 0);
        due("100 and 14", x.more(), 64 * 2);
    }

    void p25ThickestIsNotEnough() {
        says("or 999 is not enough.");
        due("999 of 999", thickestFor(37, 27).more(), 998 * 99);
        due("1000 of 999", thickestFor(20, 50).more(), -2);
        Used x = Scenes.tank(37, 27, 0, 0, 199);
        x.ring(1, 1, 999, 1, -50, 0, 9999, 99);
        due("999 already", x.more(), 0);
        Used y = Scenes.tank(20, 50, 0, 0, 199);
        y.ring(1, 1, 999, 1, -50, 0, 9999, 99);
        due("999 already, and not enough", y.more(), -2);
    }

    private static Used thickestFor(int radius, int weight) {
        Used x = Scenes.tank(radius, weight, 0, 0, 199);
        x.ring(1, 1, 1, 1, -50, 0, 9999, 99);
        return x;
    }

    void p25MostCoins() {
        says("MORE: coins;");
        Used x = Scenes.tank(1, 1, 0, 0, 199);
        for (int n = 0; n < 7; n++) {
            x.ring(20, 1, 1, 1, 99, 8, 9999999, 99);
        }
        // 2 by 10, downwards, and half of it: 140 needs 1400 of it, more than 999
        due("none is enough", x.more(), -2);
        Used y = Scenes.tank(1, 7, 0, 0, 199);
        for (int n = 0; n < 7; n++) {
            y.ring(20, 1, 1, 1, -50, 0, 9999999, 99);
        }
        // 980, 840, 700, 560, 420, 280, 140, each less the 1 that is there
        due("3913 thicker", y.more(), (3920 - 7) * 99);
    }

    void p25NothingIsBuilt() {
        says("of each RING one may make BUILT thicker by 1 for its coins");
        Used x = tank();
        x.more();
        x.thicker(0);
        due("what changed", Look.changes(Look.at(tank()), Look.at(x)).size(), 0);
    }

    void p25WithoutRings() {
        says("NONE without RINGS.");
        due("no tank", new Used().more(), -1);
        due("no ring", Scenes.tank(1, 1, 0, 0, 1).more(), -1);
    }

    // Promise 26: thicker

    void p26ByHowMuch() {
        says("By how much a RING gets thicker by MORE;");
        Used x = tank();
        due("lower", x.thicker(0), 5);
        due("upper: by nothing", x.thicker(1), 0);
        due("the most", thickestFor(37, 27).thicker(0), 998);
    }

    void p26NoneIsEnough() {
        says("-2: none is enough;");
        due("999 is not", thickestFor(20, 50).thicker(0), -2);
        Used x = tank();
        x.ring(1, 1, 1, 10, -50, 0, 49, 1);
        due("by another one's rivets", x.thicker(0), -2);
        due("by its own", x.thicker(2), -2);
    }

    void p26WithoutIt() {
        says("NONE without it.");
        for (int n : new int[] {-1, 2, 7, Integer.MIN_VALUE, Integer.MAX_VALUE}) {
            refused(StandingEdges::tank, "ring " + n, x -> x.thicker(n), -1);
        }
        Used x = Scenes.tank(10, 5, 0, 0, 199);
        due("no ring at all", x.thicker(0), -1);
        x.ring(5, 1, 40, 10, -50, 0, 249, 3);
        due("it, though none is enough", x.thicker(0), -2);
        due("another, though none is enough", x.thicker(1), -1);
    }
}
