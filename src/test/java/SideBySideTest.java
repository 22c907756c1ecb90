import java.lang.reflect.Method;
import java.util.Arrays;
import java.util.Random;
import java.util.TreeMap;

/** All promises: runs of calls by chance (the same ones each time), beside the plain tank. */
public final class SideBySideTest {
    private static final int RUNS = 1500;
    /** The longest one: an end, twenty feeds, an end and the call that reads it. */
    private static final int CALLS_OF_A_TEXT = 23;
    private static final int[] ODD = {-1, 0, 1, -2, -1000, 100000, Integer.MAX_VALUE, Integer.MIN_VALUE};

    /** Of each call what its arguments may be, low and high by turns, and how often it is made. */
    private static final Object[][] CALLS_BY_NAME = {
        {"begin", 1, 1, 40, 1, 20, 0, 60, 0, 4, 1, 60},
        {"ring", 8, 1, 20, 1, 999, 1, 999, 1, 999, -50, 99, 0, 9, 1, 400000, 1, 99},
        {"pour", 14, 1, 12, -50, 199},
        {"draw", 6, 1, 12},
        {"air", 5, -50, 99},
        {"hours", 6, 0, 30},
        {"count", 8, 0, 12},
        {"layer", 6, 0, 12, 0, 1},
        {"told", 12, 0, 6, 0, 5},
        {"nearest", 3},
        {"feed", 1, -9, 9, -9, 9, -9, 9, -9, 9, -9, 9},
        {"end", 1, 0, 20},
        {"story", 1},
        {"rule", 1},
        {"fits", 5, 0, 9, 0, 6},
        {"trace", 4, 0, 15, -1, 1},
        {"chance", 5, 0, 9, 0, 6, 0, 15},
        {"weight", 5, 0, 9, 0, 6},
        {"odds", 5, 0, 9, 0, 6},
        {"made", 3, 0, 9, 0, 6, 0, Integer.MAX_VALUE - 1, 1, 200},
        {"span", 4, 0, 6, 0, 1},
        {"trial", 4, 0, 60, 1, 99},
        {"needed", 4, 0, 6, 1, 99},
        {"more", 3},
        {"thicker", 4, 0, 6},
        {"look", 5, 0, 9, 0, 300},
        {"owed", 5},
        {"ground", 5, 0, 11, 0, 11, 0, 999},
        {"wave", 1, 0, 11, 0, 11, 0, 99999, 0, 9, 0, 99},
        {"minutes", 4, 0, 8},
        {"place", 8, 0, 11, 0, 11, 0, 3},
        {"witness", 8, 0, 200, 0, 4, 0, 255},
        {"lean", 6, 0, 4, 0, 7, 0, 100, 100, 400, 0, 1},
        {"mark", 1, 0, 3},
        {"back", 1, 0, 3},
    };

    private final Random random;
    private final TreeMap<String, Method> methods = new TreeMap<>();
    private final TreeMap<String, Method> plainMethods = new TreeMap<>();
    private final Texts texts;
    private final int[] answered = new int[3];

    private SideBySideTest(long seed) throws ReflectiveOperationException {
        random = new Random(seed);
        texts = new Texts(random);
        for (Method method : TreacleTank.class.getDeclaredMethods()) {
            if (java.lang.reflect.Modifier.isPublic(method.getModifiers())) {
                methods.put(method.getName(),
                        Used.class.getDeclaredMethod(method.getName(), method.getParameterTypes()));
                plainMethods.put(method.getName(),
                        PlainTank.class.getMethod(method.getName(), method.getParameterTypes()));
            }
        }
    }

    public static void main(String[] args) throws ReflectiveOperationException {
        SideBySideTest test = new SideBySideTest(20261118);
        for (int run = 0; run < RUNS; run++) {
            if (!test.run(run)) {
                System.exit(1);
            }
        }
        System.out.println("as due; texts taken " + test.answered[0] + ", with a fault " + test.answered[1]);
    }

    private boolean run(int run) throws ReflectiveOperationException {
        Used x = new Used();
        PlainTank plain = new PlainTank();
        StringBuilder told = new StringBuilder();
        int all = 0;
        for (Object[] row : CALLS_BY_NAME) {
            all += (Integer) row[1];
        }
        while (x.left() > 0) {
            if (random.nextInt(12) == 0 && x.left() >= CALLS_OF_A_TEXT) {
                boolean asRule = random.nextInt(3) == 0;
                tell(x, plain, asRule, told);
                if (!same(x, plain, told, asRule ? "rule" : "story")) {
                    return wrong(run, told);
                }
                continue;
            }
            int pick = random.nextInt(all);
            int n = 0;
            while (pick >= (Integer) CALLS_BY_NAME[n][1]) {
                pick -= (Integer) CALLS_BY_NAME[n][1];
                n++;
            }
            if (!same(x, plain, told, (String) CALLS_BY_NAME[n][0], arguments(CALLS_BY_NAME[n]))) {
                return wrong(run, told);
            }
        }
        return true;
    }

    private static boolean wrong(int run, StringBuilder told) {
        System.out.println("run " + run + ":\n" + told);
        return false;
    }

    private void tell(Used x, PlainTank plain, boolean asRule, StringBuilder told) {
        String text = asRule ? texts.rule() : texts.story();
        told.append("text \"").append(text).append("\"\n");
        x.tape(text);
        plain.tape = text;
    }

    private Object[] arguments(Object[] row) {
        Object[] arguments = new Object[row.length / 2 - 1];
        for (int n = 0; n < arguments.length; n++) {
            int low = (Integer) row[2 + 2 * n];
            int high = (Integer) row[3 + 2 * n];
            int pick = random.nextInt(200);
            if (pick == 0) {
                arguments[n] = ODD[random.nextInt(ODD.length)];
            } else if (pick == 1) {
                arguments[n] = high + 1;
            } else if (pick == 2) {
                arguments[n] = low - 1;
            } else if (pick < 20) {
                arguments[n] = low;
            } else {
                arguments[n] = low + random.nextInt(high - low + 1);
            }
        }
        return arguments;
    }

    private boolean same(Used x, PlainTank plain, StringBuilder told, String name, Object... arguments)
            throws ReflectiveOperationException {
        Object got = methods.get(name).invoke(x, arguments);
        Object want = plainMethods.get(name).invoke(plain, arguments);
        told.append(name).append(Arrays.toString(arguments)).append(" -> ").append(got);
        if (name.equals("story") || name.equals("rule")) {
            answered[(Integer) got >= 0 ? 0 : (Integer) got < -1 ? 1 : 2]++;
        }
        if (got.equals(want)) {
            told.append('\n');
            return true;
        }
        told.append(", due is ").append(want).append('\n');
        return false;
    }

    /** Texts by chance, good ones and such as have a byte changed. */
    private static final class Texts {
        private static final String[] WORDS = {"hour", "depth", "gas", "air", "filled", "layers", "load", "bears",
            "steel", "drawn", "built", "ring", "burst"};
        private static final String[] SIGNS = {"<", "<=", "=", ">=", ">"};
        private static final String SCRAPS = "[];+-<>=AQ09 anot";
        private final Random random;

        Texts(Random random) {
            this.random = random;
        }

        String story() {
            StringBuilder text = new StringBuilder();
            int clauses = random.nextInt(12) == 0 ? 13 + random.nextInt(3) : 1 + random.nextInt(5);
            boolean hasPrior = false;
            for (int n = 0; n < clauses; n++) {
                text.append(n == 0 ? "" : ";");
                int kind = random.nextInt(6);
                if (kind == 0 && (!hasPrior || random.nextInt(20) == 0)) {
                    hasPrior = true;
                    text.append("prior ").append(number(9999));
                } else if (kind == 1) {
                    text.append("when ").append(test(3));
                } else {
                    text.append("trace ").append((char) ('A' + random.nextInt(16))).append(number(1000));
                    text.append(random.nextBoolean() ? "" : " if " + test(2));
                }
            }
            return changed(text);
        }

        String rule() {
            StringBuilder text = new StringBuilder();
            int clauses = random.nextInt(12) == 0 ? 13 + random.nextInt(3) : 1 + random.nextInt(3);
            for (int n = 0; n < clauses; n++) {
                text.append(n == 0 ? "" : ";").append("must ").append(random.nextInt(10)).append(" every ");
                text.append(number(random.nextBoolean() ? 30 : 9999));
                text.append(random.nextBoolean() ? "" : " if " + test(2));
            }
            return changed(text);
        }

        private String changed(StringBuilder text) {
            for (int n = random.nextInt(3) - 1; n > 0 && text.length() > 0; n--) {
                int place = random.nextInt(text.length());
                char scrap = SCRAPS.charAt(random.nextInt(SCRAPS.length()));
                switch (random.nextInt(4)) {
                    case 0:
                        text.setCharAt(place, scrap);
                        break;
                    case 1:
                        text.insert(place, scrap);
                        break;
                    case 2:
                        text.deleteCharAt(place);
                        break;
                    default:
                        text.setLength(place);
                        break;
                }
            }
            return text.length() > 400 ? text.substring(0, 400) : text.toString();
        }

        private String number(int most) {
            return (random.nextInt(10) == 0 ? "00" : "") + (1 + random.nextInt(random.nextBoolean() ? most : 40));
        }

        private String test(int size) {
            if (random.nextInt(60) == 0) {
                int deep = 8 + random.nextInt(4);
                return "[not ".repeat(deep / 2) + (deep % 2 == 1 ? "not " : "") + test(0) + "]".repeat(deep / 2);
            }
            if (random.nextInt(60) == 0) {
                return "0" + "+1".repeat(52 + random.nextInt(10)) + ">1" + "-0".repeat(random.nextInt(5));
            }
            StringBuilder test = new StringBuilder(fact(size));
            for (int n = random.nextInt(size + 1); n > 0; n--) {
                test.append(random.nextBoolean() ? " and " : " or ").append(fact(size - 1));
            }
            return test.toString();
        }

        private String fact(int size) {
            int kind = random.nextInt(8);
            if (kind == 0 && size > 0) {
                return "not " + fact(size - 1);
            }
            if (kind == 1 && size > 0) {
                return "[" + test(size - 1) + " ]";
            }
            return sum() + SIGNS[random.nextInt(5)] + sum();
        }

        private String sum() {
            StringBuilder sum = new StringBuilder(value());
            for (int n = random.nextInt(6) - 3; n > 0; n--) {
                sum.append(random.nextBoolean() ? "+" : " - ").append(value());
            }
            return sum.toString();
        }

        private String value() {
            return random.nextInt(3) == 0 ? "" + random.nextInt(300) : WORDS[random.nextInt(WORDS.length)];
        }
    }
}
