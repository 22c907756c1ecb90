/** Promises 16 to 21: fits, trace, chance, weight, odds, made. */
public final class StoryTest {
    private static final Due DUE = new Due();

    public static void main(String[] args) {
        words();
        joining();
        fits();
        traces();
        chances();
        weights();
        odds();
        made();
        DUE.finish();
    }

    private static Used tank() {
        Used x = new Used();
        x.begin(2, 3, 1, 0, 1);
        x.ring(4, 40, 30, 10, -50, 1, 200, 1);
        x.ring(5, 50, 35, 10, -50, 0, 999, 1);
        x.pour(2, -20);
        x.pour(5, 80);
        x.air(12);
        x.hours(1);
        return x;
    }

    private static boolean says(Used x, int ring, String test) {
        return x.fits(x.story("when " + test), ring) == 1;
    }

    private static void words() {
        // an hour: 100 by 8 is 12: -8 and 68; -56 by 16 is -3: 65; gas 2
        String[] tests = {"hour=1", "depth=7", "gas=2", "air=12", "filled=2", "layers=2", "load=46", "bears=200",
            "steel=2", "drawn=40", "built=30", "ring=0", "burst=0"};
        for (String test : tests) {
            DUE.due(test, says(tank(), 0, test), true);
        }
        String[] upper = {"load=22", "bears=348", "steel=38", "drawn=50", "built=35", "ring=1"};
        for (String test : upper) {
            DUE.due(test, says(tank(), 1, test), true);
        }
        Used x = tank();
        x.begin(9, 9, 0, 0, 1);
        x.ring(5, 1, 1, 1, 0, 0, 1, 1);
        x.ring(5, 1, 1, 1, 0, 0, 1, 1);
        x.pour(1, 1);
        DUE.due("burst, of the one", says(x, 0, "burst=1"), true);
        DUE.due("burst, of the other", says(x, 1, "burst=1"), true);
    }

    private static void joining() {
        String[] hold = {"1<2", "1<=1", "1=1", "1>=1", "2>1", "5-3-1=1", "1-2+3=2", "3-5<0-1", "1=2 or 1=1",
            "1=1 or 1=1 and 1=2", "not 1=2 and 1=1", "not [1=2 and 1=1]", "not not 1=1", "not[not 1=1 or 1=2]",
            "1=2 and 1=2 or 1=1", "[1=1 or 1=1]and[1=1]", "99999=099999-0"};
        String[] fail = {"1<1", "2<=1", "1=2", "1>=2", "1>1", "5-3-1=3", "1=2 or 1=3", "[1=1 or 1=1] and 1=2",
            "not 1=1 and 1=1", "not[1=1 or 1=2]", "1=1 and not 1=1", "not 1=2 and 1=2", "1=2 and 1=1 or 1=2"};
        for (String test : hold) {
            boolean good = test.indexOf("099999") < 0;
            DUE.due(test, says(tank(), 0, test), good);
        }
        for (String test : fail) {
            DUE.due(test, says(tank(), 0, test), false);
        }
    }

    private static void fits() {
        Used x = tank();
        x.story("prior 1");
        x.story("when ring=1;when depth=7;trace A 1 if 1=2");
        DUE.due("without any", x.fits(0, 0), 1);
        DUE.due("not all hold", x.fits(1, 0), 0);
        DUE.due("all hold", x.fits(1, 1), 1);
        DUE.due("story -1", x.fits(-1, 0), -1);
        DUE.due("story 2", x.fits(2, 0), -1);
        DUE.due("ring -1", x.fits(0, -1), -1);
        DUE.due("ring 2", x.fits(0, 2), -1);
        x.draw(1);
        DUE.due("no longer", x.fits(1, 1), 0);
    }

    private static void traces() {
        Used x = new Used();
        DUE.due("trace 15", x.trace(15, 1), -1);
        DUE.due("trace 15 again", x.trace(15, 0), 1);
        DUE.due("trace 15 neither", x.trace(15, -1), 0);
        DUE.due("trace 15 is neither", x.trace(15, 1), -1);
        DUE.due("another one", x.trace(0, 0), -1);
        DUE.due("trace -1", x.trace(-1, 0), -2);
        DUE.due("trace 16", x.trace(16, 0), -2);
        DUE.due("is 2", x.trace(0, 2), -2);
        DUE.due("is -2", x.trace(0, -2), -2);
        DUE.due("nothing happened", x.trace(0, 1), 0);
    }

    private static void chances() {
        Used x = tank();
        x.story("trace A 10 if ring=1;trace A 20 if gas=2;trace A 30;trace P 1000;trace B 7 if ring=1;trace A 40");
        DUE.due("second", x.chance(0, 0, 0), 20);
        DUE.due("first", x.chance(0, 1, 0), 10);
        DUE.due("no test holds", x.chance(0, 0, 1), 500);
        DUE.due("none", x.chance(0, 0, 2), 500);
        DUE.due("P", x.chance(0, 0, 15), 1000);
        DUE.due("trace -1", x.chance(0, 0, -1), -1);
        DUE.due("trace 16", x.chance(0, 0, 16), -1);
        DUE.due("story 1", x.chance(1, 0, 0), -1);
        DUE.due("ring 2", x.chance(0, 2, 0), -1);
        x.begin(1, 1, 1, 1, 1);
        DUE.due("no ring", x.chance(0, 0, 0), -1);
    }

    private static void weights() {
        Used x = tank();
        x.story("prior 9999;trace A 333;trace B 1;trace C 999;when ring=0");
        DUE.due("prior", x.weight(0, 0), 9999000000L);
        DUE.due("no fit", x.weight(0, 1), 0);
        x.trace(0, 1);
        DUE.due("A", x.weight(0, 0), 3329667000L);
        x.trace(1, 1);
        DUE.due("A B", x.weight(0, 0), 3329667L);
        x.trace(2, 0);
        DUE.due("A B, not C: downwards", x.weight(0, 0), 3329L);
        x.trace(3, 1);
        DUE.due("usual", x.weight(0, 0), 1664L);
        x.trace(4, 0);
        DUE.due("usual, not there", x.weight(0, 0), 832L);
        DUE.due("story -1", x.weight(-1, 0), -1);
        DUE.due("ring 2", x.weight(0, 2), -1);
    }

    private static void odds() {
        Used x = tank();
        x.story("prior 1;when ring=0;trace A 1000");
        x.story("prior 2;when ring=0;trace A 1000");
        DUE.due("a third", x.odds(0, 0), 333333);
        DUE.due("two thirds", x.odds(1, 0), 666666);
        DUE.due("all are 0", x.odds(0, 1), -2);
        x.trace(0, 0);
        DUE.due("not there, though sure", x.odds(0, 0), -2);
        x.story("prior 1");
        DUE.due("the only one", x.odds(2, 0), 1000000);
        DUE.due("no other", x.odds(1, 0), 0);
        DUE.due("story 3", x.odds(3, 0), -1);
        DUE.due("ring -1", x.odds(0, -1), -1);
    }

    private static int plainMade(int[] chances, int[] seen, long seed, int n) {
        long x = seed;
        int times = 0;
        for (int time = 0; time < n; time++) {
            int right = 0;
            for (int t = 0; t < 16; t++) {
                x = x * 1103515245L + 12345L & 2147483647L;
                boolean there = (x >> 16) % 1000 < chances[t];
                right += seen[t] == -1 || there == (seen[t] == 1) ? 1 : 0;
            }
            times += right == 16 ? 1 : 0;
        }
        return times;
    }

    private static void made() {
        Used x = tank();
        x.story("when 1=2;trace A 300;trace B 700 if ring=0;trace P 0");
        int[] chances = new int[16];
        java.util.Arrays.fill(chances, 500);
        chances[0] = 300;
        chances[1] = 700;
        chances[15] = 0;
        int[] seen = new int[16];
        java.util.Arrays.fill(seen, -1);
        DUE.due("nothing seen: always", x.made(0, 0, 5, 200), 200);
        seen[0] = 1;
        seen[1] = 0;
        seen[15] = 0;
        for (int t = 0; t < 16; t++) {
            x.trace(t, seen[t]);
        }
        int[] seeds = {0, 1, 77, 123456789, 2147483647};
        for (int seed : seeds) {
            DUE.due("made " + seed, x.made(0, 0, seed, 200), plainMade(chances, seen, seed, 200));
            DUE.due("made " + seed, x.made(0, 0, seed, 7), plainMade(chances, seen, seed, 7));
        }
        chances[1] = 500;
        DUE.due("by another ring", x.made(0, 1, 9, 200), plainMade(chances, seen, 9, 200));
        x.trace(15, 1);
        DUE.due("what can't be there", x.made(0, 0, 5, 200), 0);
        DUE.due("0 times", x.made(0, 0, 0, 0), -1);
        DUE.due("201 times", x.made(0, 0, 0, 201), -1);
        DUE.due("seed -1", x.made(0, 0, -1, 1), -1);
        DUE.due("story 1", x.made(1, 0, 0, 1), -1);
        DUE.due("ring 2", x.made(0, 2, 0, 1), -1);
    }
}
