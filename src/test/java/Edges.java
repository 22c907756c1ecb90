import java.lang.reflect.InvocationTargetException;
import java.lang.reflect.Method;
import java.util.ArrayList;
import java.util.List;
import java.util.TreeMap;
import java.util.function.IntToLongFunction;
import java.util.function.Supplier;

/**
 * Tests of the document's boundary sentences. Each is a method whose name begins with p and the promise's number,
 * and says first which words of the document it holds.
 */
abstract class Edges {
    interface Call {
        long of(Used x);
    }

    interface Choice {
        long of(Used x, int n);
    }

    private final Words words;
    private String test;
    private int quotes;
    private int tests;
    private int wrong;

    Edges(Words words) {
        this.words = words;
    }

    final void runAll() throws IllegalAccessException {
        TreeMap<String, Method> methods = new TreeMap<>();
        for (Method method : getClass().getDeclaredMethods()) {
            if (method.getName().matches("p\\d\\d[A-Z]\\w*")) {
                methods.put(method.getName(), method);
            }
        }
        for (Method method : methods.values()) {
            test = method.getName();
            quotes = 0;
            tests++;
            try {
                method.invoke(this);
            } catch (InvocationTargetException e) {
                wrong("threw " + e.getCause());
            }
            if (quotes == 0) {
                wrong("says no words of the document");
            }
        }
    }

    final int testCount() {
        return tests;
    }

    final int wrongCount() {
        return wrong;
    }

    private int promise() {
        return Integer.parseInt(test.substring(1, 3));
    }

    private void wrong(String what) {
        wrong++;
        System.out.println("promise " + promise() + ", " + test + ": " + what);
    }

    /** Quotes the document: words of the promise that the test is named by, or of the terms. */
    final void says(String... sentences) {
        for (String sentence : sentences) {
            quotes++;
            if (words != null && !words.quote(promise(), sentence)) {
                wrong("the document does not say: " + sentence);
            }
        }
    }

    final void due(String call, long got, long want) {
        if (got != want) {
            wrong(call + " answered " + got + ", due is " + want);
        }
    }

    final void due(String call, boolean got, boolean want) {
        due(call, yes(got), yes(want));
    }

    static long yes(boolean is) {
        return is ? 1 : 0;
    }

    /** A call is refused, and nothing that can be read is otherwise then. */
    final void refused(Supplier<Used> scene, String call, Call answer, long want) {
        Used x = scene.get();
        due(call, answer.of(x), want);
        for (String change : Look.changes(Look.at(scene.get()), Look.at(x))) {
            wrong(call + " was refused, yet " + change);
        }
    }

    /** Numbers from low to high are taken, those beyond either edge are refused. */
    final void limits(Supplier<Used> scene, int low, int high, Choice answer, IntToLongFunction taken, long refusal) {
        for (int n : new int[] {low, high}) {
            due("the edge " + n, answer.of(scene.get(), n), taken.applyAsLong(n));
        }
        for (int n : beyond(low, high)) {
            refused(scene, "beyond the edge, " + n + ",", x -> answer.of(x, n), refusal);
        }
    }

    private static List<Integer> beyond(int low, int high) {
        List<Integer> beyond = new ArrayList<>();
        for (int n : new int[] {low - 1, high + 1, Integer.MIN_VALUE, Integer.MAX_VALUE}) {
            if ((n < low || n > high) && !beyond.contains(n)) {
                beyond.add(n);
            }
        }
        return beyond;
    }
}
