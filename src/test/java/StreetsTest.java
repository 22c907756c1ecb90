/** Promises 29 to 32: ground, wave, minutes, place. */
public final class StreetsTest {
    private static final Due DUE = new Due();

    public static void main(String[] args) {
        groundEdges();
        waveEdges();
        nothingPoured();
        easyThenStiff();
        atMostAQuarter();
        hills();
        stainsStay();
        anotherWave();
        nothingIsLost();
        minutesEdges();
        DUE.finish();
    }

    private static void groundEdges() {
        Used x = new Used();
        DUE.due("ground", x.ground(11, 0, 999), 0);
        DUE.due("what it was", x.ground(11, 0, 5), 999);
        DUE.due("x and y", x.place(11, 0, 1), 5);
        DUE.due("not y and x", x.place(0, 11, 1), 0);
        DUE.due("x -1", x.ground(-1, 0, 1), -1);
        DUE.due("x 12", x.ground(12, 0, 1), -1);
        DUE.due("y -1", x.ground(0, -1, 1), -1);
        DUE.due("y 12", x.ground(0, 12, 1), -1);
        DUE.due("n -1", x.ground(0, 0, -1), -1);
        DUE.due("n 1000", x.ground(0, 0, 1000), -1);
        DUE.due("nothing happened", x.place(0, 0, 1), 0);
        DUE.due("without a wave, treacle", x.place(11, 0, 0), 0);
        DUE.due("without a wave, stain", x.place(11, 0, 2), 0);
        DUE.due("without a wave, came", x.place(11, 0, 3), -1);
        DUE.due("what -1", x.place(0, 0, -1), -1000);
        DUE.due("what 4", x.place(0, 0, 4), -1000);
        DUE.due("place -1", x.place(-1, 0, 0), -1000);
        DUE.due("place 12", x.place(0, 12, 0), -1000);
    }

    private static void waveEdges() {
        Used x = new Used();
        DUE.due("no wave yet", x.minutes(0), -1);
        DUE.due("x 12", x.wave(12, 0, 1, 0, 0), false);
        DUE.due("y -1", x.wave(0, -1, 1, 0, 0), false);
        DUE.due("much -1", x.wave(0, 0, -1, 0, 0), false);
        DUE.due("much 100000", x.wave(0, 0, 100000, 0, 0), false);
        DUE.due("easy -1", x.wave(0, 0, 1, -1, 0), false);
        DUE.due("easy 100", x.wave(0, 0, 1, 100, 0), false);
        DUE.due("stiff -1", x.wave(0, 0, 1, 0, -1), false);
        DUE.due("stiff 1000", x.wave(0, 0, 1, 0, 1000), false);
        DUE.due("still none", x.minutes(0), -1);
        DUE.due("the most", x.wave(11, 11, 99999, 99, 999), true);
        DUE.due("it is there", x.place(11, 11, 0), 99999);
        DUE.due("a wave", x.minutes(0), 0);
    }

    private static void nothingPoured() {
        Used x = new Used();
        x.ground(3, 3, 50);
        DUE.due("of nothing", x.wave(3, 3, 0, 0, 0), true);
        DUE.due("minutes", x.minutes(5), 5);
        DUE.due("no stain", x.place(3, 3, 2), 0);
        DUE.due("never came", x.place(3, 3, 3), -1);
    }

    private static void easyThenStiff() {
        Used x = new Used();
        x.wave(5, 5, 1000, 1, 100);
        x.minutes(1);
        // 1000 by 6: 166 to each side
        DUE.due("middle", x.place(5, 5, 0), 336);
        DUE.due("left", x.place(4, 5, 0), 166);
        DUE.due("right", x.place(6, 5, 0), 166);
        DUE.due("above", x.place(5, 4, 0), 166);
        DUE.due("below", x.place(5, 6, 0), 166);
        DUE.due("not across", x.place(4, 4, 0), 0);
        x.minutes(1);
        // 170 less 100 by 6: 11 each; 66 by 6: 11 to each of three
        DUE.due("middle", x.place(5, 5, 0), 336 - 44);
        DUE.due("left", x.place(4, 5, 0), 166 + 11 - 33);
        DUE.due("across", x.place(4, 4, 0), 22);
        DUE.due("two to the left", x.place(3, 5, 0), 11);
        DUE.due("came", x.place(3, 5, 3), 2);
        DUE.due("came across", x.place(6, 6, 3), 2);
        DUE.due("never came", x.place(2, 5, 3), -1);
        Used y = new Used();
        y.wave(5, 5, 106, 0, 100);
        y.minutes(1);
        DUE.due("stiff at once", y.place(5, 5, 0), 102);
        Used z = new Used();
        z.wave(5, 5, 105, 0, 100);
        z.minutes(60);
        DUE.due("too stiff", z.place(5, 5, 0), 105);
    }

    private static void atMostAQuarter() {
        Used x = new Used();
        x.ground(0, 0, 900);
        x.wave(0, 0, 43, 9, 0);
        x.minutes(1);
        DUE.due("a quarter to the right", x.place(1, 0, 0), 10);
        DUE.due("a quarter below", x.place(0, 1, 0), 10);
        DUE.due("the rest", x.place(0, 0, 0), 23);
    }

    private static void hills() {
        Used x = new Used();
        x.ground(1, 0, 600);
        x.ground(0, 1, 594);
        x.wave(0, 0, 600, 9, 0);
        x.minutes(1);
        DUE.due("not up the hill", x.place(1, 0, 0), 0);
        DUE.due("up the lesser one", x.place(0, 1, 0), 1);
        DUE.due("level", x.place(0, 1, 1), 595);
        DUE.due("stain by level", x.place(0, 1, 2), 595);
    }

    private static void stainsStay() {
        Used x = new Used();
        x.ground(2, 2, 30);
        x.wave(2, 2, 600, 9, 0);
        DUE.due("stain at the beginning", x.place(2, 2, 2), 630);
        x.minutes(30);
        DUE.due("stain stays", x.place(2, 2, 2), 630);
        DUE.due("it came at the beginning", x.place(2, 2, 3), 0);
        x.ground(2, 2, 999);
        DUE.due("not by ground alone", x.place(2, 2, 2), 630);
        x.minutes(0);
        DUE.due("not by no minute", x.place(2, 2, 2), 630);
        x.minutes(1);
        DUE.due("behind a minute", x.place(2, 2, 2), x.place(2, 2, 1));
    }

    private static void anotherWave() {
        Used x = new Used();
        x.ground(7, 7, 4);
        x.wave(2, 2, 6000, 9, 0);
        x.minutes(20);
        DUE.due("a wrong one", x.wave(2, 2, 5, 9, 1000), false);
        DUE.due("goes on", x.minutes(1), 21);
        DUE.due("another one", x.wave(7, 7, 10, 9, 0), true);
        DUE.due("no minutes", x.minutes(0), 0);
        DUE.due("no treacle", x.place(2, 2, 0), 0);
        DUE.due("no stain", x.place(2, 2, 2), 0);
        DUE.due("never came", x.place(2, 2, 3), -1);
        DUE.due("the ground stays", x.place(7, 7, 1), 14);
    }

    private static void nothingIsLost() {
        Used x = new Used();
        for (int n = 0; n < 144; n++) {
            x.ground(n % 12, n / 12, n * 37 % 200);
        }
        x.wave(0, 11, 99999, 20, 3);
        x.minutes(60);
        int all = 0;
        for (int n = 0; n < 144; n++) {
            all += x.place(n % 12, n / 12, 0);
        }
        DUE.due("all is there", all, 99999);
    }

    private static void minutesEdges() {
        Used x = new Used();
        x.wave(0, 0, 9, 0, 0);
        DUE.due("-1 minutes", x.minutes(-1), -1);
        DUE.due("61 minutes", x.minutes(61), -1);
        DUE.due("60 minutes", x.minutes(60), 60);
        DUE.due("in all", x.minutes(60), 120);
    }
}
