/** Boundary sentences of promises 33 and 34: witness, lean. */
final class WitnessEdges extends Edges {
    WitnessEdges(Words words) {
        super(words);
    }

    private void lean(Used x, int said, int paper, int above, int below) {
        due("above the line, " + said + " by " + paper, x.lean(said, paper, 0, 99999, 0), above);
        due("below the line, " + said + " by " + paper, x.lean(said, paper, 0, 99999, 1), below);
    }

    // Promise 33: witness

    void p33Hour() {
        says("asked in an HOUR (not behind NOW),", "or something is not as told.");
        limits(Scenes::rich, 0, 4, (x, n) -> x.witness(n, 1, 1), n -> 4, -1);
    }

    void p33Said() {
        says("said one of 0 to 4,");
        limits(Scenes::rich, 0, 4, (x, n) -> x.witness(0, n, 1), n -> 4, -1);
    }

    void p33Read() {
        says("had READ some of PAPERS 0 to 7 (bits).");
        limits(Scenes::rich, 0, 255, (x, n) -> x.witness(0, 1, n), n -> 4, -1);
    }

    void p33ThreeHundred() {
        says("WITNESSES, 300 at most:", "NONE: 300,");
        refused(WitnessEdges::threeHundred, "a 301st", x -> x.witness(0, 0, 0), -1);
    }

    private static Used threeHundred() {
        Used x = new Used();
        for (int n = 0; n < 300; n++) {
            x.witness(0, n % 5, n % 3);
        }
        return x;
    }

    void p33HowMany() {
        says("A WITNESS: how many there are;");
        Used x = new Used();
        for (int n = 1; n <= 300; n++) {
            due("witness", x.witness(0, 0, 0), n);
        }
        due("count", x.count(11), 300);
    }

    void p33LastHour() {
        says("asked in an HOUR (not behind NOW),");
        Used x = Scenes.late();
        x.hours(499);
        due("100000", x.witness(100000, 0, 0), -1);
        due("99999", x.witness(99999, 0, 0), 1);
    }

    // Promise 34: lean

    void p34Said() {
        says("LEAN of what was said k by a PAPER,", "-1000 without these");
        limits(Scenes::rich, 0, 4, (x, n) -> x.lean(n, 7, 0, 9, 1), n -> 1, -1000);
    }

    void p34Paper() {
        says("PAPERS 0 to 7", "-1000 without these");
        // the second of three had read paper 7, and two paper 0
        limits(Scenes::rich, 0, 7, (x, n) -> x.lean(3, n, 0, 9, 1), n -> n == 0 ? 2 : 1, -1000);
    }

    void p34Part() {
        says("LEAN part 0: above the line, 1: below it;", "-1000 without these");
        limits(Scenes::rich, 0, 1, (x, n) -> x.lean(3, 0, 0, 9, n), n -> n == 0 ? 1 : 2, -1000);
    }

    void p34From() {
        says("of those asked from an HOUR to another one:", "HOURS 0 to 99999;");
        limits(Scenes::rich, 0, 99999, (x, n) -> x.lean(3, 0, n, 99999, 1), n -> n == 0 ? 2 : 0, -1000);
    }

    void p34To() {
        says("of those asked from an HOUR to another one:", "HOURS 0 to 99999;");
        limits(Scenes::rich, 0, 99999, (x, n) -> x.lean(3, 0, 0, n, 1), n -> n == 0 ? 0 : 2, -1000);
    }

    void p34FromAboveTo() {
        says("(from above to, too).");
        refused(Scenes::rich, "2 to 1", x -> x.lean(3, 0, 2, 1, 0), -1000);
        refused(Scenes::rich, "99999 to 0", x -> x.lean(3, 0, 99999, 0, 0), -1000);
        due("2 to 2", Scenes.rich().lean(3, 0, 2, 2, 0), 0);
    }

    private static Used fourHours() {
        Used x = new Used();
        x.hours(5);
        x.witness(1, 0, 1);
        x.witness(2, 0, 0);
        x.witness(3, 1, 0);
        x.witness(4, 1, 1);
        return x;
    }

    void p34FromAndToCount() {
        says("of those asked from an HOUR to another one:");
        Used x = fourHours();
        due("1 to 2: 1 by 1 less 1 by 1", x.lean(0, 0, 1, 2, 0), 0);
        due("1 to 2, below", x.lean(0, 0, 1, 2, 1), 1);
        due("1 to 3: 1 by 1 less 1 by 2", x.lean(0, 0, 1, 3, 0), 1);
        due("1 to 3, below", x.lean(0, 0, 1, 3, 1), 2);
        due("2 to 4: 0 by 1 less 1 by 2", x.lean(0, 0, 2, 4, 0), -1);
        due("2 to 4, below", x.lean(0, 0, 2, 4, 1), 2);
        x.witness(2, 0, 1);
        due("one hour alone: 2 to 2", x.lean(0, 0, 2, 2, 1), 1);
    }

    void p34Nobody() {
        says("(none, if one of both is nobody).", "0 by 0: none.");
        Used x = new Used();
        lean(x, 0, 0, 0, 0);
        x.witness(0, 1, 1);
        lean(x, 1, 0, 0, 0);
        lean(x, 1, 1, 0, 0);
        x.witness(0, 0, 0);
        lean(x, 1, 0, 1, 1);
        lean(x, 0, 0, -1, 1);
        due("asked later than those: nobody", fourHours().lean(0, 0, 5, 99999, 1), 0);
        due("nobody had read it", fourHours().lean(0, 0, 2, 3, 1), 0);
        due("all had read it", fourHours().lean(0, 0, 4, 4, 1), 0);
    }

    void p34LowestTerms() {
        says("the share of those who said k among those who had READ it, less that among those who had not,"
                + " in lowest terms, below the line above 0");
        Used x = new Used();
        // paper 7: 3 of 4 said 1; of the others 1 of 6
        int[] read = {128, 129, 255, 128, 0, 1, 127, 0, 0, 3};
        int[] said = {1, 1, 1, 0, 1, 0, 0, 4, 4, 2};
        for (int n = 0; n < 10; n++) {
            x.witness(0, said[n], read[n]);
        }
        lean(x, 1, 7, 7, 12);
        lean(x, 4, 7, -1, 3);
        lean(x, 3, 7, 0, 1);
        lean(x, 2, 7, -1, 6);
        lean(x, 0, 7, -1, 12);
    }

    void p34NoDifference() {
        says("in lowest terms, below the line above 0");
        Used x = new Used();
        for (int n = 0; n < 12; n++) {
            x.witness(0, n % 3, n % 2);
        }
        lean(x, 0, 0, 0, 1);
        lean(x, 4, 0, 0, 1);
    }

    void p34AllAndNone() {
        says("the share of those who said k among those who had READ it, less that among those who had not,");
        Used x = new Used();
        for (int n = 0; n < 300; n++) {
            x.witness(0, n < 150 ? 4 : 3, n < 150 ? 255 : 0);
        }
        lean(x, 4, 7, 1, 1);
        lean(x, 3, 7, -1, 1);
    }

    void p34ThreeHundred() {
        says("in lowest terms");
        Used x = new Used();
        for (int n = 0; n < 300; n++) {
            x.witness(0, n == 0 || n == 149 ? 2 : 0, n < 149 ? 16 : 239);
        }
        // 1 of 149 less 1 of 151
        lean(x, 2, 4, 2, 149 * 151);
    }

    void p34EachPaperIsABit() {
        says("had READ some of PAPERS 0 to 7 (bits).");
        for (int paper = 0; paper < 8; paper++) {
            Used x = new Used();
            x.witness(0, 1, 1 << paper);
            x.witness(0, 2, 255 - (1 << paper));
            lean(x, 1, paper, 1, 1);
            lean(x, 2, paper, -1, 1);
        }
    }
}
