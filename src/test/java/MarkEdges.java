import java.util.List;
import java.util.function.Consumer;
import java.util.function.Supplier;

/** Boundary sentences of promises 35 and 36: mark, back. */
final class MarkEdges extends Edges {
    MarkEdges(Words words) {
        super(words);
    }

    /** Behind a change and a going back all is as it was when the mark was made. */
    private void goesBack(String what, Supplier<Used> scene, Consumer<Used> change) {
        Used x = scene.get();
        long now = x.mark(0);
        change.accept(x);
        due(what + ": back", x.back(0), now);
        Used y = scene.get();
        y.mark(0);
        List<String> changes = Look.changes(Look.at(y), Look.at(x));
        due(what + ": what is otherwise " + changes, changes.size(), 0);
        Used z = scene.get();
        z.mark(0);
        change.accept(z);
        Used w = scene.get();
        w.mark(0);
        due(what + ": something was otherwise", Look.changes(Look.at(w), Look.at(z)).isEmpty(), false);
    }

    // Promise 35: mark

    void p35Which() {
        says("MARKS 0 to 3:", "A MARK is made: NOW;", "NONE without it.");
        limits(Scenes::rich, 0, 3, Used::mark, n -> 4, -1);
    }

    void p35MadeAnew() {
        says("A MARK is made: NOW;", "as they are;");
        Used x = new Used();
        due("made", x.mark(2), 0);
        x.hours(5);
        due("made anew", x.mark(2), 5);
        x.hours(5);
        due("back to the newer", x.back(2), 5);
    }

    void p35EachItsOwn() {
        says("MARKS 0 to 3:");
        Used x = new Used();
        for (int k = 0; k < 4; k++) {
            due("mark", x.mark(k), k);
            x.hours(1);
        }
        for (int k = 3; k >= 0; k--) {
            due("back", x.back(k), k);
        }
        due("forth again", x.back(3), 3);
    }

    void p35ChangesNothing() {
        says("A MARK is made: NOW;");
        Used x = Scenes.rich();
        x.mark(1);
        x.mark(1);
        Used y = Scenes.rich();
        y.mark(1);
        due("what is otherwise", Look.changes(Look.at(y), Look.at(x)).size(), 0);
    }

    // Promise 36: back

    void p36Which() {
        says("It is gone back to a MARK: NOW;", "or without it.");
        for (int k : new int[] {-1, 4, Integer.MIN_VALUE, Integer.MAX_VALUE}) {
            refused(Scenes::rich, "mark " + k, x -> x.back(k), -1);
        }
        due("mark 1", Scenes.rich().back(1), 3);
    }

    void p36NeverMade() {
        says("NONE, and nothing happens, if it was never made,");
        for (int k = 0; k < 4; k++) {
            int which = k;
            refused(Used::new, "mark " + k, x -> x.back(which), -1);
        }
        for (int k : new int[] {0, 2, 3}) {
            refused(Scenes::rich, "mark " + k, x -> x.back(k), -1);
        }
        refused(Scenes::rich, "a mark that was refused", x -> x.mark(4) + x.back(0), -2);
    }

    void p36Now() {
        says("NOW, the TANK,");
        goesBack("now", Scenes::rich, x -> x.hours(7));
        Used x = new Used();
        x.hours(9);
        x.mark(0);
        x.hours(1);
        due("back", x.back(0), 9);
        due("an hour that is no more", x.look(1, 10), false);
    }

    void p36TheTank() {
        says("NOW, the TANK, RINGS, LAYERS, GAS, AIR,");
        goesBack("another tank", Scenes::rich, x -> x.begin(2, 3, 9, 9, 9));
        goesBack("another tank, filled", Scenes::rich, x -> {
            x.begin(99, 99, 9, 9, 9);
            x.ring(1, 2, 3, 4, 5, 6, 7, 8);
            x.ring(2, 3, 4, 5, 6, 7, 8, 9);
            x.pour(1, 1);
        });
        goesBack("fillings", Scenes::rich, x -> {
            x.pour(1, 51);
            x.draw(1);
        });
    }

    void p36TheTanksMeasures() {
        says("NOW, the TANK,");
        goesBack("vent, warm, tire and weight, by an hour and a pouring", () -> {
            Used x = Scenes.rich();
            x.mark(3);
            return x;
        }, x -> {
            x.begin(2, 3, 9, 9, 9);
            x.hours(1);
        });
        Used x = Scenes.rich();
        x.mark(0);
        x.begin(2, 3, 9, 99, 199);
        x.back(0);
        x.hours(1);
        Used y = Scenes.rich();
        y.hours(1);
        due("an hour by its vent and warm", x.count(4), y.count(4));
        due("load by its radius and weight", x.told(0, 0), y.told(0, 0));
        x.pour(1, 10);
        y.pour(1, 10);
        due("plate by its tire", x.told(0, 3), y.told(0, 3));
    }

    void p36NoTank() {
        says("as they are; gone back to, these are as they were");
        goesBack("no tank", Used::new, x -> {
            x.begin(1, 1, 0, 0, 1);
            Scenes.strongRing(x, 5);
        });
        Used x = new Used();
        x.mark(0);
        x.begin(1, 1, 0, 0, 1);
        x.back(0);
        due("no ring without a tank", Scenes.strongRing(x, 5), -1);
    }

    void p36Burst() {
        says("NOW, the TANK,");
        Supplier<Used> unburst = () -> {
            Used x = Scenes.tank(1, 10, 0, 0, 199);
            x.ring(5, 9, 5, 10, -50, 0, 9999, 1);
            x.pour(4, 10);
            return x;
        };
        goesBack("before a burst", unburst, x -> {
            x.air(10);
            x.pour(1, 10);
            x.draw(5);
            x.begin(1, 99, 0, 0, 1);
            x.ring(5, 9, 5, 10, -50, 0, 9999, 1);
            x.pour(5, 10);
        });
        Used x = unburst.get();
        x.mark(0);
        x.hours(6);
        x.begin(1, 99, 0, 0, 1);
        x.ring(5, 9, 1, 1, -50, 0, 9999, 1);
        x.pour(5, 10);
        x.mark(1);
        x.back(0);
        due("it may be drawn off", x.draw(1), 3);
        due("a ring comes", Scenes.strongRing(x, 1), 1);
        x.back(1);
        due("burst again", x.count(7), 0);
        due("in the hour of then", x.count(8), 6);
        due("by the load of then", x.told(0, 5), 495);
        due("nothing is drawn off", x.draw(1), -1);
    }

    void p36Rings() {
        says("RINGS, LAYERS, GAS, AIR, STOOD,");
        goesBack("a ring more", Scenes::rich, x -> Scenes.strongRing(x, 7));
        Used x = Scenes.rich();
        x.mark(0);
        Scenes.strongRing(x, 7);
        x.back(0);
        due("no higher than then", x.pour(7, 10), -1);
        due("the next one's number", Scenes.strongRing(x, 1), 2);
    }

    void p36RingsFromSevenToNone() {
        says("RINGS, LAYERS, GAS, AIR, STOOD,");
        goesBack("seven", Scenes::tall, x -> x.begin(1, 1, 0, 0, 1));
        goesBack("none", () -> Scenes.tank(1, 1, 0, 0, 1), x -> {
            for (int n = 0; n < 7; n++) {
                Scenes.strongRing(x, 20);
            }
        });
    }

    void p36Layers() {
        says("LAYERS, GAS, AIR,");
        goesBack("poured", Scenes::threeLayers, x -> x.pour(2, 70));
        goesBack("drawn off", Scenes::threeLayers, x -> x.draw(5));
        goesBack("all drawn off", Scenes::threeLayers, x -> x.draw(10));
        goesBack("heat", Scenes::threeLayers, x -> x.hours(3));
        goesBack("thirty", () -> Scenes.thirtyLayers(0, 1), x -> x.draw(30));
    }

    void p36Gas() {
        says("GAS, AIR,");
        goesBack("gas", () -> Scenes.thirtyLayers(0, 1), x -> x.hours(9));
    }

    void p36Air() {
        says("AIR, STOOD,");
        goesBack("air", Scenes::rich, x -> x.air(-50));
        goesBack("air without a tank", Used::new, x -> x.air(99));
    }

    void p36Stood() {
        says("STOOD, TRACES SEEN,");
        goesBack("stood", Scenes::threeLayers, x -> {
            x.pour(5, 10);
            x.draw(5);
        });
        Used x = Scenes.threeLayers();
        x.mark(0);
        x.pour(10, 10);
        x.back(0);
        due("what it stood then", x.told(0, 4), 10);
    }

    void p36Traces() {
        says("TRACES SEEN, who LOOKED,");
        goesBack("a trace seen", Scenes::rich, x -> x.trace(15, 1));
        goesBack("a trace forgotten", Scenes::rich, x -> x.trace(0, -1));
        goesBack("a trace not there", Scenes::rich, x -> x.trace(0, 0));
    }

    void p36Looked() {
        says("who LOOKED, WITNESSES,");
        for (int man : new int[] {0, 9}) {
            Used x = Scenes.rich();
            x.rule("must " + man + " every 3");
            x.mark(0);
            due("owed", x.owed() >> man & 1, 1);
            x.look(man, 4);
            due("not owed", x.owed() >> man & 1, 0);
            x.back(0);
            due("owed again", x.owed() >> man & 1, 1);
        }
        Used y = Scenes.rich();
        y.mark(0);
        y.hours(5);
        y.look(2, 9);
        y.back(0);
        due("he looked in hour 1", y.owed() & 4, 0);
        y.hours(1);
        due("not below 5 of hour 5", y.hours(1) == 6 ? y.owed() & 4 : -1, 4);
    }

    void p36Witnesses() {
        says("WITNESSES, STREETS");
        goesBack("one more", Scenes::rich, x -> x.witness(4, 2, 2));
        Used x = new Used();
        x.hours(9);
        x.mark(0);
        x.witness(1, 1, 1);
        x.witness(1, 2, 0);
        x.mark(1);
        x.back(0);
        due("the first again", x.witness(9, 3, 0), 1);
        x.witness(8, 4, 2);
        x.witness(8, 4, 2);
        x.back(1);
        due("two", x.count(11), 2);
        due("as they were asked and had read", x.lean(1, 0, 0, 5, 0), 1);
        due("as they said", x.lean(2, 0, 0, 5, 0), -1);
    }

    void p36FromThreeHundredWitnesses() {
        says("WITNESSES, STREETS");
        Used x = new Used();
        x.mark(0);
        for (int n = 0; n < 300; n++) {
            x.witness(0, 0, 0);
        }
        x.mark(1);
        x.back(0);
        due("none", x.count(11), 0);
        due("the first", x.witness(0, 0, 0), 1);
        x.back(1);
        due("three hundred", x.count(11), 300);
        due("no more", x.witness(0, 0, 0), -1);
    }

    void p36Streets() {
        says("STREETS with the WAVE,");
        goesBack("ground", Scenes::rich, x -> x.ground(0, 0, 5));
        goesBack("minutes", Scenes::rich, x -> x.minutes(7));
        goesBack("another wave", Scenes::rich, x -> x.wave(9, 4, 70, 7, 7));
    }

    void p36TheWavesMeasures() {
        says("STREETS with the WAVE,");
        Used x = new Used();
        x.wave(5, 5, 106, 0, 100);
        x.mark(0);
        x.wave(5, 5, 106, 9, 0);
        x.back(0);
        x.minutes(1);
        due("as stiff as then", x.place(5, 5, 0), 102);
        Used y = new Used();
        y.wave(5, 5, 106, 1, 100);
        y.mark(0);
        y.minutes(1);
        y.back(0);
        y.minutes(1);
        due("as easy as then", y.place(5, 5, 0), 106 - 4 * 17);
    }

    void p36NoWave() {
        says("STREETS with the WAVE,");
        goesBack("no wave", Used::new, x -> x.wave(4, 4, 100, 1, 1));
        Used x = new Used();
        x.mark(0);
        x.wave(4, 4, 100, 1, 1);
        x.minutes(3);
        x.back(0);
        due("no minutes", x.minutes(0), -1);
        due("no stain", x.place(4, 4, 2), 0);
        due("never came", x.place(4, 4, 3), -1);
    }

    void p36TextsStay() {
        says("(texts stay).");
        Used x = Scenes.rich();
        x.mark(0);
        x.story("prior 7");
        x.rule("must 9 every 1");
        x.feed(1, 2, 3, 4, 5);
        x.back(0);
        due("stories", x.count(9), 3);
        due("rules", x.count(10), 2);
        due("the third story", x.weight(2, 0) > 0, true);
        due("the second rule", x.owed() >> 9 & 1, 1);
        due("bytes of the tape", x.count(12), 20);
    }

    void p36TenTextsStay() {
        says("(texts stay).");
        Used x = new Used();
        x.mark(0);
        for (int n = 0; n < 10; n++) {
            x.story("prior 1");
            x.rule("must 1 every 1");
        }
        x.back(0);
        due("ten stories", x.story("prior 1"), -1);
        due("ten rules", x.rule("must 1 every 1"), -1);
    }

    void p36TheMarksStay() {
        says("It is gone back to a MARK: NOW;");
        Used x = new Used();
        x.mark(0);
        x.hours(1);
        x.mark(1);
        due("back", x.back(0), 0);
        x.hours(9);
        due("again", x.back(0), 0);
        due("to a later one", x.back(1), 1);
        x.hours(9);
        x.witness(10, 0, 0);
        due("what comes behind a going back does not change the mark", x.back(1), 1);
        due("no witness", x.count(11), 0);
    }
}
