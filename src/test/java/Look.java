import java.util.ArrayList;
import java.util.List;

/** All that can be read of an object. It is its end: the traces are forgotten and the marks gone back to. */
final class Look {
    private final Used x;
    private final List<String> rows = new ArrayList<>();

    private Look(Used x) {
        this.x = x;
    }

    static List<String> at(Used x) {
        Look look = new Look(x);
        look.counts();
        look.tank();
        look.stories();
        look.witnesses();
        // three hundred witnesses leave no calls for the streets
        if (x.count(11) < 100) {
            look.streets();
        }
        look.traces();
        look.marks();
        return look.rows;
    }

    /** The rows that are not the same in both, as they were and as they became. */
    static List<String> changes(List<String> before, List<String> then) {
        List<String> changes = new ArrayList<>();
        for (int n = 0; n < Math.max(before.size(), then.size()); n++) {
            String was = n < before.size() ? before.get(n) : "nothing";
            String is = n < then.size() ? then.get(n) : "nothing";
            if (!was.equals(is)) {
                changes.add(was + " became " + is);
            }
        }
        return changes;
    }

    private void row(String call, long answer) {
        rows.add(call + " " + answer);
    }

    private void counts() {
        for (int what = 0; what < 13; what++) {
            row("count " + what, x.count(what));
        }
    }

    private void tank() {
        for (int n = 0; n < x.count(2); n++) {
            row("feet of layer " + n, x.layer(n, 0));
            row("heat of layer " + n, x.layer(n, 1));
        }
        for (int n = 0; n < x.count(1); n++) {
            for (int what = 0; what < 6; what++) {
                row("told " + n + " " + what, x.told(n, what));
            }
            row("span " + n, x.span(n, 1));
            row("needed " + n, x.needed(n, 9));
            row("thicker " + n, x.thicker(n));
        }
        row("nearest", x.nearest());
        row("trial", x.trial(1, 99));
        row("more", x.more());
        row("owed", x.owed());
    }

    private void stories() {
        for (int n = 0; n < x.count(9); n++) {
            row("fits " + n, x.fits(n, 0));
            row("chance A of " + n, x.chance(n, 0, 0));
            row("chance B of " + n, x.chance(n, 0, 1));
            row("weight " + n, x.weight(n, 0));
            row("odds " + n, x.odds(n, 0));
        }
    }

    private void witnesses() {
        for (int said = 0; said < 5; said++) {
            row("lean above, " + said, x.lean(said, 0, 0, 99999, 0));
            row("lean below, " + said, x.lean(said, 0, 0, 99999, 1));
        }
    }

    private void streets() {
        for (int n = 0; n < 144; n++) {
            row("level of " + n % 12 + " " + n / 12, x.place(n % 12, n / 12, 1));
        }
        for (int n = 0; n < 12; n++) {
            row("treacle of " + n + " 4", x.place(n, 4, 0));
            row("stain of " + n + " 4", x.place(n, 4, 2));
            row("came to " + n + " 4", x.place(n, 4, 3));
        }
        row("minutes", x.minutes(0));
    }

    private void traces() {
        for (int trace = 0; trace < 16; trace++) {
            row("trace " + trace, x.trace(trace, -1));
        }
    }

    private void marks() {
        for (int k = 0; k < 4; k++) {
            row("back " + k, x.back(k));
            row("depth at mark " + k, x.count(3));
        }
    }
}
