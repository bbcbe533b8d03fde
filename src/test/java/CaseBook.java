import java.util.Set;
import java.util.TreeSet;
import java.util.function.Supplier;
import java.util.function.ToIntFunction;

/**
 * Cases, each a test of its own on markets of its own. A name begins with the promise's number, or with the
 * section of the document, and tells the case.
 */
abstract class CaseBook extends Markets {
    private static final int MOST_STATES = 4;

    /** A call with one of its arguments. */
    interface Call {
        int of(BarterRings x, int argument);
    }

    private final Set<String> names = new TreeSet<>();
    private Checks checks;
    private boolean anyCheck;

    abstract void cases();

    final Set<String> runAll(Checks allChecks) {
        checks = allChecks;
        cases();
        return names;
    }

    /** A case that checks nothing fails, as does a name that stands twice. */
    final void test(String name, Runnable body) {
        checks.begin(name);
        checks.tell(names.add(name), "the name stands twice");
        anyCheck = false;
        try {
            body.run();
        } catch (RuntimeException thrown) {
            checks.tell(false, "threw " + thrown);
        }
        checks.tell(anyCheck, "nothing was checked");
    }

    final void due(String call, long got, long want) {
        anyCheck = true;
        checks.due(call, got, want);
    }

    final void due(String call, double got, double want) {
        anyCheck = true;
        checks.due(call, got, want);
    }

    final void tell(boolean holds, String fault) {
        anyCheck = true;
        checks.tell(holds, fault);
    }

    /** One call on a market that is made anew. */
    final void answers(String name, Supplier<BarterRings> made, ToIntFunction<BarterRings> call, int want) {
        test(name, () -> due("the call", call.applyAsInt(made.get()), want));
    }

    /** One call on a market that is made anew, and a look behind it. */
    final void answers(String name, Supplier<BarterRings> made, ToIntFunction<BarterRings> call, int want,
            ToIntFunction<BarterRings> look, int seen) {
        test(name, () -> {
            BarterRings x = made.get();
            due("the call", call.applyAsInt(x), want);
            due("the look behind it", look.applyAsInt(x), seen);
        });
    }

    /** As answers, and nothing that can be seen afterwards is otherwise than without the call. */
    final void unchanged(String name, Supplier<BarterRings> made, ToIntFunction<BarterRings> call, int want) {
        test(name, () -> {
            due("the call", call.applyAsInt(made.get()), want);
            String with = afterwards(made, call);
            String without = afterwards(made, x -> 0);
            tell(with.equals(without), "the call changed " + without + " to " + with);
        });
    }

    /** The arguments just outside of the range and the farthest ones, each on a market in which all has happened. */
    final void invalidOutside(String name, int least, int greatest, Call call) {
        int[] outside = {least - 1, greatest + 1, Integer.MIN_VALUE, Integer.MAX_VALUE};
        String[] where = {"one below the least", "one above the greatest", "the least int", "the greatest int"};
        for (int which = 0; which < outside.length; which++) {
            int argument = outside[which];
            unchanged(name + " of " + argument + ", " + where[which] + ", is INVALID_ARGUMENT", Markets::worn,
                x -> call.of(x, argument), INVALID);
        }
    }

    /** Also what later calls bring to light: the states, the snapshot, and the characters of the pad. */
    private static String afterwards(Supplier<BarterRings> made, ToIntFunction<BarterRings> call) {
        StringBuilder all = new StringBuilder();
        for (int undone = 0; undone <= MOST_STATES + 1; undone++) {
            BarterRings x = after(made, call);
            for (int step = 0; step < undone; step++) {
                all.append(x.undo()).append(' ');
            }
            all.append(allTold(x)).append('\n');
        }
        all.append(toldAfter(made, call, BarterRings::restore));
        all.append(toldAfter(made, call, BarterRings::traders));
        all.append(toldAfter(made, call, BarterRings::days));
        return all.toString();
    }

    private static BarterRings after(Supplier<BarterRings> made, ToIntFunction<BarterRings> call) {
        BarterRings x = made.get();
        call.applyAsInt(x);
        return x;
    }

    private static String toldAfter(
            Supplier<BarterRings> made, ToIntFunction<BarterRings> call, ToIntFunction<BarterRings> later) {
        BarterRings x = after(made, call);
        return later.applyAsInt(x) + " " + allTold(x) + "\n";
    }
}
