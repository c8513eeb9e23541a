import java.util.List;
import java.util.function.Supplier;
import java.util.function.ToIntFunction;

/**
 * Two objects that were made alike: if a call changes nothing, the one on which it is made stays like
 * the other in all that can be asked, and when both are explored anew and cleared. A boolean counts 1
 * or 0, so that a call may answer either.
 */
final class Twins {
    private static final int MOST_CALLS = 512;
    private static final int CALLS_BEFORE = 60;

    private Twins() {
    }

    static void unchanged(Due due, String call, Supplier<ClaimDesk> made, ToIntFunction<ClaimDesk> calling,
            int answer) {
        ClaimDesk one = made.get();
        ClaimDesk other = made.get();
        due.is(call, calling.applyAsInt(one), answer);
        alike(due, "after " + call + ", ", one, other);
    }

    static int told(boolean answer) {
        return answer ? 1 : 0;
    }

    static void alike(Due due, String when, ClaimDesk one, ClaimDesk other) {
        int calls = CALLS_BEFORE;
        calls += compare(due, when, one, other);
        due.is(when + "explore()", one.explore(), other.explore());
        calls += compare(due, when + "explored anew, ", one, other);
        due.is(when + "clear()", one.clear(), other.clear());
        calls += compare(due, when + "cleared, ", one, other);
        due.yes(calls + " calls are promised", calls <= MOST_CALLS);
    }

    private static int compare(Due due, String when, ClaimDesk one, ClaimDesk other) {
        List<String> got = Seen.all(one);
        List<String> want = Seen.all(other);
        due.is(when + "rows", got.size(), want.size());
        for (int i = 0; i < Math.min(got.size(), want.size()); i++) {
            due.yes(when + got.get(i) + ", due is " + want.get(i), got.get(i).equals(want.get(i)));
        }
        return got.size();
    }
}
