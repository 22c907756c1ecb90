/** Boundary sentences of promises 27 and 28: look, owed. */
final class RuleEdges extends Edges {
    RuleEdges(Words words) {
        super(words);
    }

    private static Used ringAndRules(String... rules) {
        Used x = Scenes.tank(1, 1, 0, 0, 199);
        Scenes.strongRing(x, 5);
        for (String rule : rules) {
            x.rule(rule);
        }
        return x;
    }

    // Promise 27: look

    void p27Man() {
        says("MEN 0 to 9 LOOK", "A MAN LOOKS in an HOUR: true; false for others");
        limits(Scenes::rich, 0, 9, (x, n) -> yes(x.look(n, 4)), n -> 1, 0);
    }

    void p27Hour() {
        says("LOOK in HOURS not behind NOW;");
        limits(Scenes::rich, 0, 4, (x, n) -> yes(x.look(2, n)), n -> 1, 0);
        due("in hour 0 of a new one", new Used().look(0, 0), true);
        due("in hour 1 of a new one", new Used().look(0, 1), false);
    }

    void p27LastHour() {
        says("LOOK in HOURS not behind NOW;");
        Used x = Scenes.late();
        x.hours(499);
        due("99999", x.look(0, 99999), true);
        due("100000", x.look(0, 100000), false);
    }

    void p27EarlierChangesNothing() {
        says("(an earlier one than LOOKED changes nothing, and is true).", "LOOKED: the latest HOUR.");
        Used x = ringAndRules("must 1 every 3");
        x.hours(5);
        due("hour 3", x.look(1, 3), true);
        due("hour 1", x.look(1, 1), true);
        due("not owed", x.owed(), 0);
        due("hour 3 again", x.look(1, 3), true);
        due("not owed", x.owed(), 0);
        x.hours(1);
        due("owed 3 hours behind the latest", x.owed(), 2);
        due("hour 4", x.look(1, 4), true);
        due("a later one counts", x.owed(), 0);
    }

    void p27ByHimAlone() {
        says("A MAN LOOKS in an HOUR");
        Used x = ringAndRules("must 1 every 3;must 2 every 3");
        x.look(1, 0);
        due("the other owes", x.owed(), 4);
    }

    // Promise 28: owed

    void p28NotBelowIt() {
        says("and he did not LOOK in so many HOURS up to NOW (NOW less LOOKED is not below it;");
        Used x = ringAndRules("must 0 every 3;must 9 every 1");
        x.look(0, 0);
        x.look(9, 0);
        due("hour 0", x.owed(), 0);
        x.hours(1);
        due("hour 1", x.owed(), 512);
        x.hours(1);
        due("hour 2", x.owed(), 512);
        x.hours(1);
        due("hour 3", x.owed(), 513);
    }

    void p28LongestTime() {
        says("every NUMBER (1 to 9999)");
        Used x = ringAndRules("must 4 every 9999");
        x.look(4, 0);
        for (int n = 0; n < 19; n++) {
            x.hours(500);
        }
        x.hours(498);
        due("hour 9998", x.owed(), 0);
        x.hours(1);
        due("hour 9999", x.owed(), 16);
    }

    void p28Never() {
        says("never: owed).");
        Used x = ringAndRules("must 3 every 9999");
        due("never looked", x.owed(), 8);
        x.look(3, 0);
        due("looked in hour 0", x.owed(), 0);
    }

    void p28WithoutARing() {
        says("(or that has none, and there is a RING),");
        Used x = new Used();
        x.rule("must 1 every 1");
        due("no tank", x.owed(), 0);
        x.begin(1, 1, 0, 0, 1);
        due("no ring", x.owed(), 0);
        Scenes.strongRing(x, 1);
        due("a ring", x.owed(), 2);
    }

    void p28OfSomeRing() {
        says("whose TEST holds of some RING now");
        Used x = ringAndRules("must 1 every 1 if ring=1", "must 2 every 1 if ring=0", "must 5 every 1 if ring>=0");
        due("of ring 0", x.owed(), 4 + 32);
        Scenes.strongRing(x, 5);
        due("of ring 1", x.owed(), 2 + 4 + 32);
    }

    void p28Now() {
        says("whose TEST holds of some RING now");
        Used x = ringAndRules("must 1 every 1 if depth>=3");
        due("depth 0", x.owed(), 0);
        x.pour(3, 10);
        due("depth 3", x.owed(), 2);
        x.draw(1);
        due("depth 2", x.owed(), 0);
    }

    void p28SomeClause() {
        says("OWED is a look by a MAN, if some must CLAUSE of a RULE names him,");
        Used x = ringAndRules("must 1 every 9;must 1 every 5 if air<5", "must 1 every 7 if air>50");
        x.look(1, 0);
        x.hours(7);
        due("none yet", x.owed(), 0);
        x.air(4);
        due("by the second clause", x.owed(), 2);
        x.air(51);
        due("by the second rule", x.owed(), 2);
        x.air(50);
        due("none", x.owed(), 0);
        x.hours(2);
        due("by the first clause", x.owed(), 2);
    }

    void p28NoRules() {
        says("MEN by whom a look is OWED, as bits.");
        due("no rules", ringAndRules().owed(), 0);
        due("a new one", new Used().owed(), 0);
    }

    void p28AllTen() {
        says("MEN by whom a look is OWED, as bits.");
        Used x = ringAndRules();
        for (int man = 0; man < 10; man++) {
            x.rule("must " + man + " every 1");
        }
        due("all", x.owed(), 1023);
        x.look(9, 0);
        due("all but the last", x.owed(), 511);
        x.look(0, 0);
        due("all but the first and the last", x.owed(), 510);
    }

    void p28BehindABurst() {
        says("OWED is a look by a MAN,");
        Used x = Scenes.burst();
        x.rule("must 6 every 4 if burst=1");
        x.look(6, 2);
        x.hours(3);
        due("3 hours", x.owed(), 0);
        x.hours(1);
        due("4 hours", x.owed(), 64);
    }
}
