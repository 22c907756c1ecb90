import java.util.ArrayList;
import java.util.List;
import java.util.TreeMap;

/** A text, read byte by byte and answered while it is read; without a tank it is read alone. */
final class PlainText {
    static final class Fault extends RuntimeException {
        private static final long serialVersionUID = 1;
        final int place;
        final int why;

        Fault(int place, int why) {
            super("fault", null, false, false);
            this.place = place;
            this.why = why;
        }
    }

    final TreeMap<Integer, Integer> chances = new TreeMap<>();
    final List<int[]> musts = new ArrayList<>();
    boolean fits = true;
    int prior = 1;

    private final String text;
    private final PlainTank tank;
    private final PlainTank.PlainRing ring;
    private int at;
    private int deep;
    private int parts;

    PlainText(String text, boolean asRule, PlainTank tank, PlainTank.PlainRing ring) {
        this.text = text;
        this.tank = tank;
        this.ring = ring;
        boolean hasPrior = false;
        for (int clause = 1;; clause++) {
            String word = peekWord();
            boolean good = asRule ? word.equals("must")
                    : word.equals("prior") || word.equals("when") || word.equals("trace");
            if (!good) {
                throw new Fault(at, 0);
            }
            if (clause == 15 || hasPrior && word.equals("prior")) {
                throw new Fault(at, 4);
            }
            at += word.length();
            if (word.equals("prior")) {
                hasPrior = true;
                prior = number(1, 9999);
            } else if (word.equals("when")) {
                fits &= test();
            } else if (word.equals("trace")) {
                blanks();
                if (at == text.length() || text.charAt(at) < 'A' || text.charAt(at) > 'P') {
                    throw new Fault(at, 0);
                }
                int trace = text.charAt(at++) - 'A';
                int chance = number(0, 1000);
                if (holdsIf()) {
                    chances.putIfAbsent(trace, chance);
                }
            } else {
                int man = number(0, 9);
                if (!peekWord().equals("every")) {
                    throw new Fault(at, 0);
                }
                at += 5;
                int every = number(1, 9999);
                if (holdsIf()) {
                    musts.add(new int[] {man, every});
                }
            }
            blanks();
            if (at == text.length()) {
                return;
            }
            if (text.charAt(at) != ';') {
                throw new Fault(at, 0);
            }
            at++;
        }
    }

    private void blanks() {
        while (at < text.length() && text.charAt(at) == ' ') {
            at++;
        }
    }

    private String peek(char from, char to) {
        blanks();
        int behind = at;
        while (behind < text.length() && text.charAt(behind) >= from && text.charAt(behind) <= to) {
            behind++;
        }
        return text.substring(at, behind);
    }

    private String peekWord() {
        return peek('a', 'z');
    }

    private int number(int low, int high) {
        String digits = peek('0', '9');
        if (digits.isEmpty()) {
            throw new Fault(at, 0);
        }
        if (digits.length() > 5 || Integer.parseInt(digits) < low || Integer.parseInt(digits) > high) {
            throw new Fault(at, 1);
        }
        at += digits.length();
        return Integer.parseInt(digits);
    }

    private boolean holdsIf() {
        if (!peekWord().equals("if")) {
            return true;
        }
        at += 2;
        return test();
    }

    private boolean test() {
        boolean holds = part();
        while (peekWord().equals("or")) {
            at += 2;
            holds |= part();
        }
        return holds;
    }

    private boolean part() {
        boolean holds = fact();
        while (peekWord().equals("and")) {
            at += 3;
            holds &= fact();
        }
        return holds;
    }

    private boolean fact() {
        boolean not = peekWord().equals("not");
        boolean opens = at < text.length() && text.charAt(at) == '[';
        if (!not && !opens) {
            return comparison();
        }
        if (deep == 10) {
            throw new Fault(at, 2);
        }
        deep++;
        at += not ? 3 : 1;
        boolean holds = not ? !fact() : test();
        if (opens) {
            blanks();
            if (at == text.length() || text.charAt(at) != ']') {
                throw new Fault(at, 0);
            }
            at++;
        }
        deep--;
        return holds;
    }

    private boolean comparison() {
        int left = sum();
        String sign = "";
        for (String one : new String[] {"<=", ">=", "<", ">", "="}) {
            if (sign.isEmpty() && text.startsWith(one, at)) {
                sign = one;
            }
        }
        if (sign.isEmpty()) {
            throw new Fault(at, 0);
        }
        onePart();
        at += sign.length();
        int by = Integer.compare(left, sum());
        return sign.indexOf('<') >= 0 && by < 0 || sign.indexOf('>') >= 0 && by > 0
                || sign.indexOf('=') >= 0 && by == 0;
    }

    private void onePart() {
        parts++;
        if (parts > 60) {
            throw new Fault(at, 3);
        }
    }

    private int sum() {
        int sum = value();
        blanks();
        while (at < text.length() && "+-".indexOf(text.charAt(at)) >= 0) {
            boolean less = text.charAt(at++) == '-';
            int value = value();
            sum += less ? -value : value;
            blanks();
        }
        return sum;
    }

    private int value() {
        String word = peekWord();
        int place = at;
        int value;
        if (word.isEmpty()) {
            value = number(0, 99999);
        } else {
            value = wordValue(word);
            at += word.length();
        }
        int behind = at;
        at = place;
        onePart();
        at = behind;
        return value;
    }

    private int wordValue(String word) {
        List<String> words = List.of("hour", "depth", "gas", "air", "filled", "layers", "load", "bears", "steel",
                "drawn", "built", "ring", "burst");
        int n = words.indexOf(word);
        if (n < 0) {
            throw new Fault(at, 0);
        }
        if (tank == null) {
            return 0;
        }
        return new int[] {tank.w.now, tank.depth(), tank.w.gas, tank.w.air, tank.w.fillings, tank.w.layers.size(),
            tank.load(ring), tank.bears(ring), tank.steel(ring), ring.drawn, ring.built, tank.w.rings.indexOf(ring),
            tank.w.burstRing >= 0 ? 1 : 0}[n];
    }
}
