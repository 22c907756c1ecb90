import java.math.BigInteger;
import java.util.Arrays;

/** Boundary sentences of promises 16 to 21: fits, trace, chance, weight, odds, made. */
final class StoryEdges extends Edges {
    StoryEdges(Words words) {
        super(words);
    }

    /** Two rings, two layers, one hour: load 46 and 22, steel 2 and 38, gas 2. */
    private static Used tank() {
        Used x = Scenes.tank(2, 3, 1, 0, 1);
        x.ring(4, 40, 30, 10, -50, 1, 200, 1);
        x.ring(5, 50, 35, 10, -50, 0, 999, 1);
        x.pour(2, -20);
        x.pour(5, 80);
        x.air(12);
        x.hours(1);
        return x;
    }

    private static Used tank(String... stories) {
        Used x = tank();
        for (String story : stories) {
            x.story(story);
        }
        return x;
    }

    private void holds(String test, int ring) {
        due(test, tank("when " + test).fits(0, ring), 1);
    }

    private void fails(String test, int ring) {
        due(test, tank("when " + test).fits(0, ring), 0);
    }

    // Promise 16: fits

    void p16AllItsTests() {
        says("A STORY FITS a RING, if all its when TESTS hold of it", "1 if a STORY FITS a RING, 0 if not;");
        Used x = tank("when 1=1;when ring=1;when depth=7", "when 1=2;when 1=1", "when 1=1;when 1=2");
        due("of ring 0", x.fits(0, 0), 0);
        due("of ring 1", x.fits(0, 1), 1);
        due("all but the first", x.fits(1, 0), 0);
        due("all but the last", x.fits(2, 0), 0);
    }

    void p16AlsoWithoutAny() {
        says("(also without any).");
        Used x = tank("prior 1", "trace A 1 if 1=2");
        due("a prior alone", x.fits(0, 0), 1);
        due("a trace whose test does not hold", x.fits(1, 0), 1);
    }

    void p16WithoutThese() {
        says("NONE without these.");
        for (int n : new int[] {-1, 2, 9, 10, Integer.MIN_VALUE, Integer.MAX_VALUE}) {
            refused(Scenes::rich, "story " + n, x -> x.fits(n, 0), -1);
            refused(Scenes::rich, "ring " + n, x -> x.fits(0, n), -1);
        }
        Used x = Scenes.rich();
        x.begin(1, 1, 0, 0, 1);
        due("a story, but no ring", x.fits(0, 0), -1);
    }

    void p16TheTenthStory() {
        says("STORIES 0 to 9");
        Used x = tank();
        for (int n = 0; n < 10; n++) {
            x.story(n == 9 ? "when 1=1" : "when 1=2");
        }
        due("8", x.fits(8, 0), 0);
        due("9", x.fits(9, 0), 1);
        due("10", x.fits(10, 0), -1);
    }

    void p16Words() {
        says("of the TANK and a RING: hour (NOW), depth, gas, air, filled (FILLINGS), layers, load, bears, steel,"
                + " drawn, built, ring (its number),");
        String[] words = {"hour", "depth", "gas", "air", "filled", "layers", "load", "bears", "steel", "drawn",
            "built", "ring"};
        int[][] values = {{1, 7, 2, 12, 2, 2, 46, 200, 2, 40, 30, 0}, {1, 7, 2, 12, 2, 2, 22, 348, 38, 50, 35, 1}};
        for (int ring = 0; ring < 2; ring++) {
            for (int n = 0; n < words.length; n++) {
                String word = words[n];
                int value = values[ring][n];
                holds(word + "=" + value, ring);
                holds(value + "=" + word, ring);
                fails(word + "=" + (value + 1), ring);
                fails((value + 1) + "<=" + word, ring);
            }
        }
    }

    void p16Burst() {
        says("burst (1 if it has, else 0).");
        holds("burst=0", 0);
        Used x = Scenes.burst();
        x.story("when burst=1");
        due("of the ring by which it did", x.fits(0, 0), 1);
        due("of another", x.fits(0, 1), 1);
    }

    void p16ValuesBelowZero() {
        says("VALUE { (+ or -) VALUE }.");
        Used x = Scenes.tank(1, 1, 0, 0, 1);
        Scenes.strongRing(x, 1);
        x.air(-50);
        x.story("when air<0 and air=0-50 and steel=0-50 and air+50=0 and 0-air=50");
        due("air -50", x.fits(0, 0), 1);
    }

    void p16LargestSum() {
        says("SUM: VALUE { (+ or -) VALUE }.");
        Used x = Scenes.tank(1, 1, 0, 0, 1);
        x.ring(1, 1, 999, 999, -50, 0, 9999999, 1);
        String sum = "bears" + "+bears".repeat(27);
        x.story("when " + sum + ">99999+99999+99999");
        due("28 times 998001", x.fits(0, 0), 1);
        x.story("when 0" + "-bears".repeat(27) + "<0");
        due("27 times 998001 below 0", x.fits(1, 0), 1);
    }

    void p16Signs() {
        says("SUM SIGN SUM, SIGN one of < <= = >= >.");
        for (String test : new String[] {"1<2", "1<=2", "2<=2", "2=2", "2>=2", "3>=2", "3>2"}) {
            holds(test, 0);
        }
        for (String test : new String[] {"2<2", "3<2", "3<=2", "1=2", "3=2", "1>=2", "2>2", "1>2"}) {
            fails(test, 0);
        }
    }

    void p16SignsJoined() {
        says("SUM SIGN SUM, SIGN one of < <= = >= >.");
        for (String test : new String[] {"1<2", "1<=2", "2=2", "3>=2", "3>2"}) {
            fails("not " + test, 0);
            holds("not not " + test, 0);
            holds("1=1 and " + test, 0);
            holds(test + " and 1=1", 0);
            holds(test + " and " + test, 0);
            holds("1=2 or " + test, 0);
            fails("1=2 and " + test, 0);
        }
    }

    void p16SumsFromTheLeft() {
        says("SUM: VALUE { (+ or -) VALUE }.");
        holds("5-3-1=1", 0);
        holds("1-2+3=2", 0);
        holds("2=9-4-3", 0);
        holds("99999+1>99999", 0);
        holds("0-1<0", 0);
    }

    void p16OrAndNot() {
        says("TEST: PART { or PART }.", "PART: FACT { and FACT }.",
                "FACT: not FACT | [ TEST ] (these brackets are signs)");
        holds("1=1 or 1=1 and 1=2", 0);
        holds("1=2 and 1=2 or 1=1", 0);
        holds("1=2 or 1=2 or 1=1", 0);
        holds("not 1=2 and 1=1", 0);
        holds("not 1=2 or 1=2", 0);
        holds("not [1=1 and 1=2]", 0);
        holds("not not 1=1", 0);
        fails("[1=1 or 1=1] and 1=2", 0);
        fails("1=1 and 1=1 and 1=2", 0);
        fails("not 1=1 or 1=2", 0);
        fails("not 1=2 and 1=2", 0);
        fails("not [1=2 or 1=1]", 0);
        fails("not not not 1=1", 0);
    }

    void p16DeepestTest() {
        says("[ and not lie within one another 10 deep at most;");
        // sixty values and facts leave nine brackets that stand behind an or and an and
        holds("[" + "1=2 or 1=1 and [".repeat(9) + "1=1+0" + "]".repeat(10), 0);
        fails("[" + "1=2 or 1=1 and [".repeat(9) + "1=2-0" + "]".repeat(10), 0);
        holds("not ".repeat(10) + "1=1", 0);
        fails("not ".repeat(9) + "1=1", 0);
    }

    // Promise 17: trace

    void p17WhichTrace() {
        says("A TRACE (0 to 15)", "-2, and nothing happens, for others.");
        limits(Scenes::rich, 0, 15, (x, n) -> x.trace(n, 1), n -> n == 0 ? 1 : -1, -2);
    }

    void p17WhatItIs() {
        says("was seen (1), looked for and not there (0), or neither (NONE)", "-2, and nothing happens, for others.");
        limits(Scenes::rich, -1, 1, (x, n) -> x.trace(0, n), n -> 1, -2);
    }

    void p17WhatItWas() {
        says("or neither (NONE): what it was;",
                "TRACES SEEN: each was seen, or looked for and not there, or neither (at first).");
        Used x = new Used();
        for (int trace = 0; trace < 16; trace++) {
            due("at first", x.trace(trace, 1), -1);
        }
        due("seen", x.trace(15, 0), 1);
        due("not there", x.trace(15, -1), 0);
        due("neither", x.trace(15, -1), -1);
        due("the one beside it", x.trace(14, -1), 1);
    }

    void p17NeitherChangesNoWeight() {
        says("for each TRACE that was seen or not there,");
        Used x = tank("trace A 300");
        due("at first", x.weight(0, 0), 1000000);
        x.trace(0, 1);
        due("seen", x.weight(0, 0), 300000);
        x.trace(0, 0);
        due("not there", x.weight(0, 0), 700000);
        x.trace(0, -1);
        due("neither again", x.weight(0, 0), 1000000);
    }

    // Promise 18: chance

    void p18TheFirstThatHolds() {
        says("chance: of its first trace CLAUSE of that TRACE without a TEST or whose TEST holds;",
                "The chance of a TRACE by a STORY and a RING;");
        Used x = tank("trace A 10 if ring=1;trace B 77;trace A 20 if gas=2;trace A 30;trace A 40",
                "trace A 5;trace A 6");
        due("by ring 1 the first", x.chance(0, 1, 0), 10);
        due("by ring 0 the second", x.chance(0, 0, 0), 20);
        due("another trace", x.chance(0, 0, 1), 77);
        due("the first without a test", x.chance(1, 0, 0), 5);
        x.begin(1, 1, 0, 0, 1);
        Scenes.strongRing(x, 1);
        due("no test holds: the one without", x.chance(0, 0, 0), 30);
    }

    void p18Without() {
        says("500 without.");
        Used x = tank("trace A 10 if 1=2;trace P 0", "prior 1");
        due("no test holds", x.chance(0, 0, 0), 500);
        due("no clause of that trace", x.chance(0, 0, 1), 500);
        due("0 is not none", x.chance(0, 0, 15), 0);
        due("no trace clause", x.chance(1, 0, 0), 500);
    }

    void p18LeastAndMost() {
        says("trace TRACE NUMBER (0 to 1000)");
        Used x = tank("trace A 0;trace P 1000");
        due("least", x.chance(0, 0, 0), 0);
        due("most", x.chance(0, 0, 15), 1000);
    }

    void p18ThoughItDoesNotFit() {
        says("The chance of a TRACE by a STORY and a RING;");
        due("chance", tank("when 1=2;trace A 7").chance(0, 0, 0), 7);
    }

    void p18WithoutThese() {
        says("NONE without these.");
        for (int n : new int[] {-1, 2, 10, Integer.MIN_VALUE, Integer.MAX_VALUE}) {
            refused(Scenes::rich, "story " + n, x -> x.chance(n, 0, 0), -1);
            refused(Scenes::rich, "ring " + n, x -> x.chance(0, n, 0), -1);
        }
        limits(Scenes::rich, 0, 15, (x, n) -> x.chance(1, 0, n), n -> n == 0 ? 400 : 500, -1);
    }

    // Promise 19: weight

    void p19PriorTimesAMillion() {
        says("WEIGHT of a STORY by a RING: prior times 1000000", "prior once at most (1 without).");
        Used x = tank("prior 9999", "when 1=1", "prior 1", "trace A 5;prior 8");
        due("9999: more than an int holds", x.weight(0, 0), 9999000000L);
        due("without a prior", x.weight(1, 0), 1000000);
        due("prior 1", x.weight(2, 0), 1000000);
        due("a prior that is not first", x.weight(3, 0), 8000000);
    }

    void p19DoesNotFit() {
        says("(0 if it does not FIT),");
        Used x = tank("prior 9999;when ring=1");
        due("does not fit", x.weight(0, 0), 0);
        due("fits", x.weight(0, 1), 9999000000L);
    }

    void p19SeenOrNotThere() {
        says("times chance (not there: 1000 less chance) by 1000, downwards:");
        Used x = tank("prior 9999;trace A 333;trace B 1;trace C 999;trace D 0;trace E 1000");
        x.trace(0, 1);
        due("A", x.weight(0, 0), 3329667000L);
        x.trace(1, 1);
        due("A B", x.weight(0, 0), 3329667);
        x.trace(2, 0);
        due("A B, not C: 3329.667", x.weight(0, 0), 3329);
        x.trace(3, 0);
        due("not D, which never is", x.weight(0, 0), 3329);
        x.trace(4, 1);
        due("E, which always is", x.weight(0, 0), 3329);
        x.trace(5, 1);
        due("F, half", x.weight(0, 0), 1664);
        x.trace(4, 0);
        due("not E, which always is", x.weight(0, 0), 0);
        x.trace(4, 1);
        x.trace(3, 1);
        due("D, which never is", x.weight(0, 0), 0);
    }

    void p19FromAOn() {
        says("and for each TRACE that was seen or not there, from A on:");
        Used x = tank("trace D 185;trace C 44;trace B 47;trace A 29");
        for (int trace = 3; trace >= 0; trace--) {
            x.trace(trace, 1);
        }
        // 29000, 1363, 59, 10; from D on it would be 185000, 8140, 382, 11
        due("weight", x.weight(0, 0), 10);
    }

    void p19TheLastTrace() {
        says("for each TRACE that was seen or not there,");
        Used x = tank("trace P 1");
        x.trace(15, 1);
        due("P", x.weight(0, 0), 1000);
        for (int trace = 0; trace < 15; trace++) {
            x.trace(trace, 0);
        }
        due("all sixteen: 1000000 halved fifteen times downwards is 30", x.weight(0, 0), 0);
        x.trace(15, 0);
        due("not P", x.weight(0, 0), 29);
    }

    void p19WithoutThese() {
        says("WEIGHT; NONE without these.");
        for (int n : new int[] {-1, 2, 10, Integer.MIN_VALUE, Integer.MAX_VALUE}) {
            refused(Scenes::rich, "story " + n, x -> x.weight(n, 0), -1);
            refused(Scenes::rich, "ring " + n, x -> x.weight(0, n), -1);
        }
    }

    // Promise 20: odds

    void p20Downwards() {
        says("ODDS of a STORY: its WEIGHT by the RING, in millionths of all WEIGHTS of STORIES by it together,"
                + " downwards.");
        Used x = tank("prior 1", "prior 2");
        due("a third", x.odds(0, 0), 333333);
        due("two thirds", x.odds(1, 0), 666666);
    }

    void p20NoneAndAll() {
        says("ODDS; -2: all WEIGHTS are 0;");
        Used x = tank("prior 1;when ring=0", "prior 2;when ring=1");
        due("all of it", x.odds(0, 0), 1000000);
        due("none of it", x.odds(1, 0), 0);
        due("by the other ring", x.odds(1, 1), 1000000);
        due("a weight of 0 beside another", x.odds(0, 1), 0);
    }

    void p20AllAreZero() {
        says("-2: all WEIGHTS are 0;");
        Used x = tank("prior 9999;when 1=2", "trace A 0");
        due("one is not", x.odds(0, 0), 0);
        x.trace(0, 1);
        due("all are", x.odds(0, 0), -2);
        due("of each", x.odds(1, 0), -2);
    }

    void p20LargestWeights() {
        says("in millionths of all WEIGHTS of STORIES by it together,");
        Used x = tank();
        for (int n = 0; n < 10; n++) {
            x.story("prior 9999");
        }
        for (int n = 0; n < 10; n++) {
            due("a tenth", x.odds(n, 0), 100000);
        }
    }

    void p20WithoutThese() {
        says("NONE without these.");
        for (int n : new int[] {-1, 2, 10, Integer.MIN_VALUE, Integer.MAX_VALUE}) {
            refused(Scenes::rich, "story " + n, x -> x.odds(n, 0), -1);
            refused(Scenes::rich, "ring " + n, x -> x.odds(0, n), -1);
        }
    }

    // Promise 21: made

    void p21HowManyTimes() {
        says("MADE: a STORY made to happen n times (1 to 200)");
        limits(StoryEdges::unseen, 1, 200, (x, n) -> x.made(0, 0, 5, n), n -> n, -1);
    }

    private static Used unseen() {
        return tank("trace A 300");
    }

    void p21Seed() {
        says("by a seed (0 to 2147483647)");
        limits(StoryEdges::unseen, 0, Integer.MAX_VALUE, (x, n) -> x.made(0, 0, n, 3), n -> 3, -1);
    }

    void p21WithoutThese() {
        says("MADE; NONE without these.");
        for (int n : new int[] {-1, 2, 10, Integer.MIN_VALUE, Integer.MAX_VALUE}) {
            refused(Scenes::rich, "story " + n, x -> x.made(n, 0, 0, 1), -1);
            refused(Scenes::rich, "ring " + n, x -> x.made(0, n, 0, 1), -1);
        }
    }

    void p21BelowItsChance() {
        says("each time each TRACE A to P is there, if x / 65536 mod 1000 is below its chance,");
        // of the seed 0 A gets 0, of the greatest seed 929
        due("0 is not below 0", oneMade("trace A 0", 0), 0);
        due("0 is below 1", oneMade("trace A 1", 0), 1);
        due("929 is not below 929", oneMade("trace A 929", Integer.MAX_VALUE), 0);
        due("929 is below 930", oneMade("trace A 930", Integer.MAX_VALUE), 1);
    }

    private static int oneMade(String story, int seed) {
        Used x = tank(story);
        x.trace(0, 1);
        return x.made(0, 0, seed, 1);
    }

    void p21AlwaysAndNever() {
        says("how often all TRACES that were seen are there, and none of those that were not.");
        Used x = tank("trace A 1000;trace P 0");
        due("nothing looked for", x.made(0, 0, 77, 200), 200);
        x.trace(0, 1);
        x.trace(15, 0);
        due("what is always and what never is", x.made(0, 0, 77, 200), 200);
        x.trace(15, 1);
        due("seen what never is", x.made(0, 0, 77, 200), 0);
        x.trace(15, -1);
        x.trace(0, 0);
        due("not seen what always is", x.made(0, 0, 77, 200), 0);
    }

    void p21SixteenEachTime() {
        says("x having become x * 1103515245 + 12345, of 2147483648 the rest:");
        int[] chances = new int[16];
        Arrays.fill(chances, 500);
        chances[0] = 300;
        chances[15] = 650;
        Used x = tank("trace A 300;trace P 650;trace B 999 if ring=1");
        x.trace(0, 0);
        x.trace(1, 1);
        x.trace(15, 1);
        for (int seed : new int[] {0, 1, 12345, 1073741824, Integer.MAX_VALUE - 1, Integer.MAX_VALUE}) {
            for (int n : new int[] {1, 2, 199, 200}) {
                due("seed " + seed + ", " + n + " times", x.made(0, 0, seed, n), plainly(chances, seed, n));
            }
        }
        chances[1] = 999;
        due("by the other ring", x.made(0, 1, 9, 200), plainly(chances, 9, 200));
    }

    /** How often A is not there, and B and P are. */
    private static int plainly(int[] chances, int seed, int n) {
        BigInteger x = BigInteger.valueOf(seed);
        int times = 0;
        for (int time = 0; time < n; time++) {
            boolean[] there = new boolean[16];
            for (int trace = 0; trace < 16; trace++) {
                x = x.multiply(BigInteger.valueOf(1103515245)).add(BigInteger.valueOf(12345))
                        .mod(BigInteger.valueOf(2147483648L));
                there[trace] = x.longValue() / 65536 % 1000 < chances[trace];
            }
            times += !there[0] && there[1] && there[15] ? 1 : 0;
        }
        return times;
    }

    void p21LeavesTheTraces() {
        says("MADE: a STORY made to happen n times (1 to 200) by a RING,");
        Used x = Scenes.rich();
        x.made(0, 0, 1, 200);
        due("what changed", Look.changes(Look.at(Scenes.rich()), Look.at(x)).size(), 0);
    }
}
