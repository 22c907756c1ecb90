/** Promises 33 and 34: witness, lean. */
public final class WitnessTest {
    private static final Due DUE = new Due();

    public static void main(String[] args) {
        witnessEdges();
        threeHundred();
        leanings();
        leanByHours();
        leanEdges();
        DUE.finish();
    }

    private static void witnessEdges() {
        Used x = new Used();
        x.hours(3);
        DUE.due("hour -1", x.witness(-1, 0, 0), -1);
        DUE.due("hour 4", x.witness(4, 0, 0), -1);
        DUE.due("said -1", x.witness(0, -1, 0), -1);
        DUE.due("said 5", x.witness(0, 5, 0), -1);
        DUE.due("read -1", x.witness(0, 0, -1), -1);
        DUE.due("read 256", x.witness(0, 0, 256), -1);
        DUE.due("none", x.count(11), 0);
        DUE.due("hour 3", x.witness(3, 4, 255), 1);
        DUE.due("hour 0", x.witness(0, 0, 0), 2);
    }

    private static void threeHundred() {
        Used x = new Used();
        for (int n = 1; n <= 300; n++) {
            DUE.due("witness", x.witness(0, n % 3 == 0 ? 1 : 2, n % 2), n);
        }
        DUE.due("301", x.witness(0, 0, 0), -1);
        DUE.due("300", x.count(11), 300);
        DUE.due("as many of both", x.lean(1, 0, 0, 0, 0), 0);
        DUE.due("below the line", x.lean(1, 0, 0, 0, 1), 1);
    }

    private static void lean(Used x, int said, int paper, int above, int below) {
        DUE.due("above", x.lean(said, paper, 0, 99999, 0), above);
        DUE.due("below", x.lean(said, paper, 0, 99999, 1), below);
    }

    private static void leanings() {
        Used x = new Used();
        lean(x, 0, 0, 0, 0);
        // read paper 7: 3 of 4 said 1; not: 1 of 6
        int[] read = {128, 129, 255, 128, 0, 1, 127, 0, 0, 3};
        int[] said = {1, 1, 1, 0, 1, 0, 0, 4, 4, 2};
        for (int n = 0; n < 10; n++) {
            x.witness(0, said[n], read[n]);
        }
        lean(x, 1, 7, 7, 12);
        lean(x, 4, 7, -1, 3);
        lean(x, 3, 7, 0, 1);
        // read paper 1: 255, 127, 3
        lean(x, 2, 1, 1, 3);
        Used y = new Used();
        y.witness(0, 1, 1);
        lean(y, 1, 0, 0, 0);
        lean(y, 1, 1, 0, 0);
        y.witness(0, 0, 0);
        lean(y, 1, 0, 1, 1);
        lean(y, 0, 0, -1, 1);
    }

    private static void leanByHours() {
        Used x = new Used();
        x.hours(5);
        x.witness(1, 0, 1);
        x.witness(2, 0, 0);
        x.witness(3, 1, 0);
        x.witness(4, 1, 1);
        DUE.due("1 to 2", x.lean(0, 0, 1, 2, 0), 0);
        DUE.due("1 to 2", x.lean(0, 0, 1, 2, 1), 1);
        DUE.due("1 to 3", x.lean(0, 0, 1, 3, 0), 1);
        DUE.due("1 to 3", x.lean(0, 0, 1, 3, 1), 2);
        DUE.due("2 to 4", x.lean(0, 0, 2, 4, 0), -1);
        DUE.due("2 to 4", x.lean(0, 0, 2, 4, 1), 2);
        DUE.due("2 to 2: nobody had read it", x.lean(0, 0, 2, 2, 1), 0);
    }

    private static void leanEdges() {
        Used x = new Used();
        DUE.due("said -1", x.lean(-1, 0, 0, 1, 0), -1000);
        DUE.due("said 5", x.lean(5, 0, 0, 1, 0), -1000);
        DUE.due("paper -1", x.lean(0, -1, 0, 1, 0), -1000);
        DUE.due("paper 8", x.lean(0, 8, 0, 1, 0), -1000);
        DUE.due("from -1", x.lean(0, 0, -1, 1, 0), -1000);
        DUE.due("to 100000", x.lean(0, 0, 0, 100000, 0), -1000);
        DUE.due("from above to", x.lean(0, 0, 2, 1, 0), -1000);
        DUE.due("part -1", x.lean(0, 0, 0, 1, -1), -1000);
        DUE.due("part 2", x.lean(0, 0, 0, 1, 2), -1000);
        DUE.due("all as told", x.lean(4, 7, 99999, 99999, 1), 0);
    }
}
