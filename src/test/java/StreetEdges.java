/** Boundary sentences of promises 29 to 32: ground, wave, minutes, place. */
final class StreetEdges extends Edges {
    StreetEdges(Words words) {
        super(words);
    }

    private static Used wave(int x, int y, int much, int easy, int stiff) {
        Used used = new Used();
        used.wave(x, y, much, easy, stiff);
        return used;
    }

    /** All that lies in the streets. */
    private static int all(Used used) {
        int all = 0;
        for (int n = 0; n < 144; n++) {
            all += used.place(n % 12, n / 12, 0);
        }
        return all;
    }

    // Promise 29: ground

    void p29Place() {
        says("STREETS: 12 by 12 PLACES,", "The ground of a PLACE (x, y 0 to 11) becomes n: what it was;",
                "NONE, and nothing happens, for others.");
        limits(Scenes::rich, 0, 11, (x, n) -> x.ground(n, 5, 7), n -> 0, -1);
        limits(Scenes::rich, 0, 11, (x, n) -> x.ground(5, n, 7), n -> 0, -1);
    }

    void p29HowHigh() {
        says("each with ground (0 to 999; 0 at first).");
        limits(Scenes::rich, 0, 999, (x, n) -> x.ground(4, 4, n), n -> 9, -1);
    }

    void p29EachPlaceItsOwn() {
        says("STREETS: 12 by 12 PLACES,");
        Used x = new Used();
        for (int n = 0; n < 144; n++) {
            due("0 at first", x.ground(n % 12, n / 12, 100 + n), 0);
        }
        for (int n = 0; n < 144; n++) {
            due("ground of " + n, x.place(n % 12, n / 12, 1), 100 + n);
        }
    }

    void p29WhatItWas() {
        says("becomes n: what it was;");
        Used x = new Used();
        due("at first", x.ground(11, 0, 999), 0);
        due("then", x.ground(11, 0, 0), 999);
        due("lowered again", x.ground(11, 0, 1), 0);
    }

    // Promise 30: wave

    void p30Place() {
        says("so much treacle (0 to 99999) at a PLACE,", "A WAVE is begun,", ": true;",
                "false, and nothing happens, for others.");
        limits(Scenes::rich, 0, 11, (x, n) -> yes(x.wave(n, 5, 70, 1, 1)), n -> 1, 0);
        limits(Scenes::rich, 0, 11, (x, n) -> yes(x.wave(5, n, 70, 1, 1)), n -> 1, 0);
    }

    void p30HowMuch() {
        says("A WAVE: so much treacle (0 to 99999)");
        limits(Scenes::rich, 0, 99999, (x, n) -> yes(x.wave(5, 5, n, 1, 1)), n -> 1, 0);
        due("the most is there", wave(11, 11, 99999, 1, 1).place(11, 11, 0), 99999);
    }

    void p30Easy() {
        says("EASY for so many MINUTES (0 to 99),");
        limits(Scenes::rich, 0, 99, (x, n) -> yes(x.wave(5, 5, 70, n, 1)), n -> 1, 0);
    }

    void p30Stiff() {
        says("then STIFF (0 to 999).");
        limits(Scenes::rich, 0, 999, (x, n) -> yes(x.wave(5, 5, 70, 1, n)), n -> 1, 0);
    }

    void p30NoWaveByAWrongOne() {
        says("false, and nothing happens, for others.");
        refused(Used::new, "a wave of -1", x -> yes(x.wave(0, 0, -1, 0, 0)), 0);
    }

    void p30InPlaceOfOne() {
        says("in place of one there was (nothing of that stays)");
        Used x = wave(2, 2, 6000, 9, 0);
        x.minutes(20);
        due("another", x.wave(9, 9, 10, 0, 50), true);
        due("no minutes of the old one", x.minutes(0), 0);
        for (int what = 0; what < 3; what++) {
            due("of the old one " + what, x.place(2, 2, what), 0);
            due("of what came " + what, x.place(3, 2, what), 0);
        }
        due("it never came there", x.place(2, 2, 3), -1);
        due("all there is", all(x), 10);
        x.minutes(1);
        due("as stiff as the new one", x.place(9, 9, 0), 10);
    }

    void p30InPlaceOfOneAtTheSamePlace() {
        says("in place of one there was (nothing of that stays)");
        Used x = wave(2, 2, 6000, 9, 0);
        x.wave(2, 2, 50, 9, 0);
        due("treacle", x.place(2, 2, 0), 50);
        due("stain", x.place(2, 2, 2), 50);
        x.wave(2, 2, 0, 9, 0);
        due("no stain by nothing", x.place(2, 2, 2), 0);
        due("never came", x.place(2, 2, 3), -1);
    }

    void p30TheGroundStays() {
        says("A WAVE is begun, in place of one there was");
        Used x = new Used();
        x.ground(7, 7, 4);
        x.wave(7, 7, 10, 0, 0);
        due("level", x.place(7, 7, 1), 14);
        x.wave(1, 1, 10, 0, 0);
        due("ground", x.place(7, 7, 1), 4);
    }

    // Promise 31: minutes

    void p31HowMany() {
        says("So many MINUTES (0 to 60) of the WAVE: how many there were in all;", "or for others.");
        limits(Scenes::rich, 0, 60, Used::minutes, n -> 3 + n, -1);
    }

    void p31WithoutAWave() {
        says("NONE without it,");
        refused(Used::new, "0", x -> x.minutes(0), -1);
        refused(Used::new, "1", x -> x.minutes(1), -1);
    }

    void p31NoMinute() {
        says("So many MINUTES (0 to 60) of the WAVE");
        Used x = Scenes.rich();
        x.minutes(0);
        due("what changed", Look.changes(Look.at(Scenes.rich()), Look.at(x)).size(), 0);
    }

    void p31InAll() {
        says("how many there were in all;");
        Used x = wave(0, 0, 9, 0, 0);
        for (int n = 1; n <= 10; n++) {
            due("60 more", x.minutes(60), 60 * n);
        }
    }

    void p31MoreThanYield() {
        says("if the PLACE's LEVEL is above the neighbour's by more than YIELD", "(the difference less YIELD) by 6,");
        int[] due = {100, 100, 96, 96, 92};
        int[] much = {100, 105, 106, 111, 112};
        for (int n = 0; n < much.length; n++) {
            Used x = wave(5, 5, much[n], 0, 100);
            x.minutes(1);
            due("of " + much[n] + " goes to each side", x.place(4, 5, 0), (much[n] - 100) / 6);
            due("of " + much[n] + " stays", x.place(5, 5, 0), much[n] - 4 * ((much[n] - 100) / 6));
            due("as told", x.place(5, 5, 0) - (much[n] - 100), due[n]);
        }
    }

    void p31YieldWhileEasy() {
        says("YIELD (0 while EASY, else STIFF)");
        Used x = wave(5, 5, 1000, 1, 100);
        x.minutes(1);
        due("easy: 1000 by 6", x.place(5, 4, 0), 166);
        x.minutes(1);
        // 336 and 166: 170 less 100 by 6 is 11; 166 less 100 by 6 is 11 to each of three
        due("stiff, what stays", x.place(5, 5, 0), 336 - 44);
        due("stiff, beside it", x.place(5, 4, 0), 166 + 11 - 33);
        Used y = wave(5, 5, 1000, 0, 999);
        y.minutes(1);
        due("never easy: 1 by 6", y.place(5, 5, 0), 1000);
    }

    void p31LastEasyMinute() {
        says("EASY for so many MINUTES (0 to 99), then STIFF");
        for (int before : new int[] {98, 99}) {
            Used x = wave(0, 0, 9000, 99, 999);
            x.minutes(60);
            x.minutes(before - 60);
            x.ground(0, 0, 600);
            int there = x.place(0, 0, 0);
            x.minutes(1);
            due("minute " + (before + 1), x.place(0, 0, 0) < there, before == 98);
        }
    }

    void p31AQuarterAtMost() {
        says("but a quarter of the treacle there at most (both downwards), goes over;");
        int[] much = {3, 4, 7, 8};
        for (int n : much) {
            Used x = new Used();
            x.ground(5, 5, 999);
            x.wave(5, 5, n, 9, 0);
            x.minutes(1);
            due("a quarter of " + n, x.place(5, 6, 0), n / 4);
            due("left of " + n, x.place(5, 5, 0), n - n / 4 * 4);
        }
    }

    void p31DownwardsBySix() {
        says("(both downwards)");
        int[] much = {5, 6, 11, 12, 23, 24};
        for (int n : much) {
            Used x = wave(5, 5, n, 9, 0);
            x.minutes(1);
            due("a sixth of " + n, x.place(6, 5, 0), n / 6);
        }
    }

    void p31NotUphill() {
        says("LEVEL: ground and treacle together;", "above the neighbour's by more than YIELD");
        Used x = new Used();
        x.ground(1, 0, 600);
        x.ground(0, 1, 594);
        x.wave(0, 0, 600, 9, 0);
        x.minutes(1);
        due("as high", x.place(1, 0, 0), 0);
        due("6 lower", x.place(0, 1, 0), 1);
    }

    void p31NoTreacleFromAHill() {
        says("but a quarter of the treacle there at most");
        Used x = new Used();
        x.ground(3, 3, 999);
        x.wave(9, 9, 0, 9, 0);
        x.minutes(60);
        due("nothing goes over from a hill without treacle", all(x), 0);
    }

    void p31NeighboursInTheStreets() {
        says("of each PLACE and each of its neighbours (left, right, above, below; in the STREETS)");
        for (int n = 0; n < 144; n++) {
            Used x = wave(n % 12, n / 12, 60, 9, 0);
            x.minutes(1);
            int sides = 0;
            for (int[] side : new int[][] {{-1, 0}, {1, 0}, {0, -1}, {0, 1}}) {
                int column = n % 12 + side[0];
                int row = n / 12 + side[1];
                if (column >= 0 && column < 12 && row >= 0 && row < 12) {
                    due("from " + n + " to " + column + " " + row, x.place(column, row, 0), 10);
                    sides++;
                }
            }
            due("stays at " + n, x.place(n % 12, n / 12, 0), 60 - 10 * sides);
            due("all there is", all(x), 60);
        }
    }

    void p31NotAroundTheEdge() {
        says("in the STREETS)");
        Used x = wave(11, 3, 600, 9, 0);
        x.minutes(1);
        due("not from the end of a row to the next", x.place(0, 4, 0), 0);
        due("nor to the beginning of its own", x.place(0, 3, 0), 0);
        Used y = wave(0, 3, 600, 9, 0);
        y.minutes(1);
        due("not from the beginning of a row to the one before", y.place(11, 2, 0), 0);
        Used z = wave(3, 0, 600, 9, 0);
        z.minutes(1);
        due("not from the top to the bottom", z.place(3, 11, 0), 0);
    }

    void p31AllAtOnce() {
        says("A MINUTE:", "by what is there at its beginning:", "all at once.");
        Used x = wave(0, 0, 600, 9, 0);
        x.minutes(1);
        due("nothing goes two places at once", x.place(2, 0, 0), 0);
        x.minutes(1);
        // 400, 100, 0: 50 go from the first, 16 from the second to each of the two beyond
        due("first", x.place(0, 0, 0), 300);
        due("second", x.place(1, 0, 0), 100 + 50 - 32);
        due("third", x.place(2, 0, 0), 16);
        due("from both sides", x.place(1, 1, 0), 32);
    }

    void p31MostTreacle() {
        says("A WAVE: so much treacle (0 to 99999)");
        Used x = new Used();
        for (int n = 0; n < 144; n++) {
            x.ground(n % 12, n / 12, n * 37 % 1000);
        }
        x.wave(0, 11, 99999, 20, 3);
        x.minutes(60);
        due("all is there", all(x), 99999);
    }

    // Promise 32: place

    void p32WithoutAWave() {
        says("(without a WAVE: 0, the ground, 0, NONE).", "0 at first)");
        Used x = new Used();
        due("ground at first", x.place(11, 11, 1), 0);
        x.ground(11, 11, 999);
        int[] due = {0, 999, 0, -1};
        for (int what = 0; what < 4; what++) {
            due("what " + what, x.place(11, 11, what), due[what]);
        }
        for (int n = 0; n < 144; n++) {
            due("came to " + n, x.place(n % 12, n / 12, 3), -1);
            due("stain of " + n, x.place(n % 12, n / 12, 2), 0);
        }
    }

    void p32WithoutIt() {
        says("-1000 without it,");
        for (int n : new int[] {-1, 12, Integer.MIN_VALUE, Integer.MAX_VALUE}) {
            refused(Scenes::rich, "x " + n, x -> x.place(n, 0, 1), -1000);
            refused(Scenes::rich, "y " + n, x -> x.place(0, n, 1), -1000);
        }
        due("the last", Scenes.rich().place(11, 11, 1), 0);
    }

    void p32AnotherWhat() {
        says("or for another what");
        for (int n : new int[] {-1, 4, Integer.MIN_VALUE, Integer.MAX_VALUE}) {
            refused(Scenes::rich, "what " + n, x -> x.place(4, 4, n), -1000);
            refused(Used::new, "what " + n + " without a wave", x -> x.place(4, 4, n), -1000);
        }
    }

    void p32EachWhat() {
        says("Of a PLACE what 0: treacle, 1: LEVEL, 2: STAIN, 3: CAME (NONE: never).");
        Used x = new Used();
        x.ground(0, 0, 30);
        x.wave(0, 0, 600, 9, 0);
        int[] due = {600, 630, 630, 0};
        for (int what = 0; what < 4; what++) {
            due("what " + what, x.place(0, 0, what), due[what]);
        }
    }

    void p32StainTheGreatest() {
        says("STAIN of a PLACE: the greatest LEVEL there was at its beginning or behind a MINUTE,");
        Used x = wave(0, 0, 600, 9, 0);
        due("at the beginning", x.place(0, 0, 2), 600);
        x.minutes(1);
        due("it stays", x.place(0, 0, 2), 600);
        due("behind the first minute", x.place(1, 0, 2), 100);
        x.minutes(1);
        due("greater behind the second", x.place(1, 0, 2), 118);
        x.minutes(60);
        due("it is never less", x.place(1, 0, 2) >= 118, true);
    }

    void p32StainByTheGround() {
        says("the greatest LEVEL there was at its beginning or behind a MINUTE,");
        Used x = wave(0, 0, 600, 0, 999);
        x.ground(0, 0, 40);
        due("not by the ground alone", x.place(0, 0, 2), 600);
        x.minutes(0);
        due("nor by no minute", x.place(0, 0, 2), 600);
        x.minutes(1);
        due("behind a minute", x.place(0, 0, 2), 640);
        x.ground(0, 0, 0);
        x.minutes(1);
        due("lowered, it stays", x.place(0, 0, 2), 640);
    }

    void p32StainNever() {
        says("where there was treacle (0 where there never was).");
        Used x = new Used();
        x.ground(3, 3, 50);
        x.ground(9, 9, 70);
        x.wave(3, 3, 0, 9, 0);
        x.minutes(5);
        due("a wave of nothing", x.place(3, 3, 2), 0);
        due("ground without treacle", x.place(9, 9, 2), 0);
    }

    void p32TheLeastTreacle() {
        says("where there was treacle", "treacle first was there");
        Used x = new Used();
        x.ground(3, 3, 50);
        x.wave(3, 3, 1, 9, 0);
        due("stain of 1", x.place(3, 3, 2), 51);
        due("1 came", x.place(3, 3, 3), 0);
        x.wave(3, 3, 4, 9, 0);
        x.minutes(1);
        due("1 went over", x.place(3, 4, 0), 1);
        due("stain of it", x.place(3, 4, 2), 1);
        due("it came", x.place(3, 4, 3), 1);
    }

    void p32StainWhereItIsGone() {
        says("where there was treacle");
        Used x = new Used();
        x.ground(5, 5, 100);
        x.wave(5, 5, 4, 9, 0);
        x.minutes(1);
        due("all went over", x.place(5, 5, 0), 0);
        due("the stain of it", x.place(5, 5, 2), 104);
        x.ground(5, 5, 999);
        x.minutes(1);
        due("no stain without treacle", x.place(5, 5, 2), 104);
    }

    void p32Came() {
        says("CAME: behind how many MINUTES treacle first was there (0: at the beginning).", "3: CAME (NONE: never).");
        Used x = wave(0, 0, 600, 9, 0);
        due("at the beginning", x.place(0, 0, 3), 0);
        due("not yet", x.place(1, 0, 3), -1);
        x.minutes(2);
        due("beside it", x.place(1, 0, 3), 1);
        due("across", x.place(1, 1, 3), 2);
        due("two away", x.place(0, 2, 3), 2);
        due("three away", x.place(3, 0, 3), -1);
        x.minutes(3);
        due("first, not last", x.place(1, 0, 3), 1);
    }

    void p32CameNever() {
        says("3: CAME (NONE: never).");
        Used x = wave(3, 3, 0, 9, 0);
        due("a wave of nothing", x.place(3, 3, 3), -1);
        x.minutes(9);
        due("nor later", x.place(3, 3, 3), -1);
    }
}
