import java.util.ArrayList;
import java.util.List;

/** All that an object tells at a time, to see what stays as it was. */
final class Told {
    private static final int REFUSALS = 6;

    private final List<String> names = new ArrayList<>();
    private final List<Integer> answers = new ArrayList<>();
    private final int[] refused = new int[REFUSALS];

    private Told() {
    }

    static Told of(InkLake x) {
        Told t = new Told();
        for (int what = 0; what < REFUSALS; what++) {
            t.refused[what] = x.status(what);
        }
        for (int what = 0; what < 12; what++) {
            t.put("has " + what, x.has(what));
        }
        for (int deed = 0; deed < x.has(2); deed++) {
            for (int what = 1; what < 9; what++) {
                t.put("deed " + deed + " " + what, x.deed(deed, what));
            }
            t.put("letter of deed " + deed, x.letter(2, deed, 0));
        }
        for (int brook = 0; brook < x.has(0); brook++) {
            t.put("brook " + brook, x.brook(brook, 0) * 1000 + x.brook(brook, 1));
        }
        for (int k = 0; k < x.has(10); k++) {
            for (int what = 0; what < 4; what++) {
                t.put("kept " + k + " " + what, x.kept(k, what));
            }
        }
        t.put("miles", x.miles(0));
        t.put("later BUCKETS", x.later(1, 0));
        t.put("later GRAINS", x.later(1, 1));
        t.put("readable later", x.later(1, 3));
        t.put("least outflow", x.outflow(0));
        t.put("greatest outflow", x.outflow(1));
        t.put("fault", x.fault(0));
        t.put("place", x.fault(1));
        for (int k = 0; k <= 15; k++) {
            t.put("octet " + k, x.octet(k));
        }
        return t;
    }

    private void put(String name, int answer) {
        names.add(name);
        answers.add(answer);
    }

    /** All is as it was, but that one more was refused of that group (none for -1). */
    void stays(String sentence, InkLake x, int group) {
        Told after = of(x);
        Check.yes(sentence + ": as much is told", names.equals(after.names));
        for (int k = 0; k < Math.min(answers.size(), after.answers.size()); k++) {
            Check.eq(sentence + ": stays: " + names.get(k), after.answers.get(k), answers.get(k));
        }
        for (int what = 0; what < REFUSALS; what++) {
            Check.eq(sentence + ": status " + what, after.refused[what], refused[what] + (what == group ? 1 : 0));
        }
    }
}
