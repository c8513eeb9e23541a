import java.util.ArrayDeque;
import java.util.ArrayList;
import java.util.Arrays;
import java.util.HashMap;
import java.util.HashSet;
import java.util.List;
import java.util.Map;
import java.util.Set;

/**
 * The document's words in their plainest form, written apart from the program and by other ways where
 * there are any: STATES are lists, nothing is kept but the SPACE, and avoids looks for rounds.
 */
final class Model {
    private static final int REFUSED = -1;
    private static final int NONE = -2;
    private static final int FULL = -3;
    private static final int LARGE = -4;

    private int[] beginnings = new int[4];
    private final List<int[]> transitions = new ArrayList<>();
    private final List<int[]> claims = new ArrayList<>();
    private List<State> space;
    private Map<List<Integer>, Integer> numbers;
    private List<List<Integer>> ways;
    private State stateNow = first();
    private int steps;

    private record State(int[] places, int[] variables, List<Integer> channel) {
        State copy() {
            return new State(places.clone(), variables.clone(), new ArrayList<>(channel));
        }

        List<Integer> key() {
            List<Integer> key = new ArrayList<>();
            Arrays.stream(places).forEach(key::add);
            Arrays.stream(variables).forEach(key::add);
            key.addAll(channel);
            return key;
        }
    }

    private State first() {
        return new State(new int[3], beginnings.clone(), new ArrayList<>());
    }

    private static boolean in(int n, int low, int high) {
        return low <= n && n <= high;
    }

    boolean begin(int values) {
        if (!in(values, 0, 255)) {
            return false;
        }
        beginnings = new int[] {values % 4, values / 4 % 4, values / 16 % 4, values / 64};
        stateNow = first();
        steps = 0;
        space = null;
        return true;
    }

    private static boolean fits(int process, int from, int to, int op) {
        return in(process, 0, 2) && in(from, 0, 7) && in(to, 0, 7) && in(op, 0, 127);
    }

    int add(int process, int from, int to, int op) {
        if (!fits(process, from, to, op)) {
            return REFUSED;
        }
        if (transitions.size() >= 24) {
            return FULL;
        }
        transitions.add(new int[] {process, from, to, op / 16, op / 4 % 4, op % 4});
        space = null;
        return transitions.size() - 1;
    }

    boolean change(int t, int process, int from, int to, int op) {
        if (!in(t, 0, transitions.size() - 1) || !fits(process, from, to, op)) {
            return false;
        }
        transitions.set(t, new int[] {process, from, to, op / 16, op / 4 % 4, op % 4});
        space = null;
        return true;
    }

    int clear() {
        int were = transitions.size();
        transitions.clear();
        claims.clear();
        space = null;
        stateNow = first();
        steps = 0;
        return were;
    }

    int claim(int sort, int a, int b) {
        boolean fits = sort == 0 && in(a, 0, 3) && in(b, 0, 3)
                || sort == 1 && in(a, 0, 2) && in(b, 0, 7)
                || sort == 2 && in(a, 0, 2) && in(b, 0, 2) && a != b
                || sort == 3 && in(a, 0, 2)
                || sort == 4 && in(a, 0, 3) && in(b, 0, 3);
        if (!fits) {
            return REFUSED;
        }
        if (claims.size() >= 6) {
            return FULL;
        }
        claims.add(new int[] {sort, a, b});
        return claims.size() - 1;
    }

    private boolean isOpen(int t, State s) {
        int[] x = transitions.get(t);
        if (s.places()[x[0]] != x[1]) {
            return false;
        }
        if (x[3] == 1) {
            return s.variables()[x[4]] == x[5];
        }
        if (x[3] == 2) {
            return s.variables()[x[4]] != x[5];
        }
        if (x[3] == 6) {
            return s.channel().size() < 2;
        }
        return x[3] != 7 || !s.channel().isEmpty();
    }

    private State leadsTo(int t, State s) {
        int[] x = transitions.get(t);
        State to = s.copy();
        to.places()[x[0]] = x[2];
        int[] v = to.variables();
        if (x[3] == 3) {
            v[x[4]] = x[5];
        } else if (x[3] == 4) {
            v[x[4]] = (v[x[4]] + x[5]) % 4;
        } else if (x[3] == 5) {
            v[x[4]] = v[x[5]];
        } else if (x[3] == 6) {
            to.channel().add(v[x[4]]);
        } else if (x[3] == 7) {
            v[x[4]] = to.channel().remove(0);
        }
        return to;
    }

    private List<Integer> open(State s) {
        List<Integer> open = new ArrayList<>();
        for (int t = 0; t < transitions.size(); t++) {
            if (isOpen(t, s)) {
                open.add(t);
            }
        }
        return open;
    }

    int explore() {
        space = new ArrayList<>(List.of(first()));
        numbers = new HashMap<>(Map.of(first().key(), 0));
        ways = new ArrayList<>(List.of(new ArrayList<>()));
        for (int s = 0; s < space.size(); s++) {
            for (int t : open(space.get(s))) {
                State to = leadsTo(t, space.get(s));
                if (!numbers.containsKey(to.key())) {
                    if (space.size() == 300) {
                        space = null;
                        return LARGE;
                    }
                    numbers.put(to.key(), space.size());
                    space.add(to);
                    List<Integer> way = new ArrayList<>(ways.get(s));
                    way.add(t);
                    ways.add(way);
                }
            }
        }
        return space.size();
    }

    private boolean failsIn(int i, State s) {
        int[] c = claims.get(i);
        switch (c[0]) {
            case 0:
                return s.variables()[c[1]] == c[2];
            case 1:
                return s.places()[c[1]] == c[2];
            case 2:
                return s.places()[c[1]] == s.places()[c[2]];
            case 3:
                return s.channel().size() >= c[1];
            default:
                return s.variables()[c[1]] > s.variables()[c[2]];
        }
    }

    int fails(int i) {
        if (space == null || !in(i, 0, claims.size() - 1)) {
            return NONE;
        }
        for (int s = 0; s < space.size(); s++) {
            if (failsIn(i, space.get(s))) {
                return s;
            }
        }
        return NONE;
    }

    private boolean isStuck(State s) {
        return open(s).isEmpty();
    }

    private boolean isDone(State s) {
        return isStuck(s) && Arrays.equals(s.places(), new int[] {7, 7, 7});
    }

    int stuck(boolean done) {
        if (space == null) {
            return NONE;
        }
        for (int s = 0; s < space.size(); s++) {
            if (isStuck(space.get(s)) && isDone(space.get(s)) == done) {
                return s;
            }
        }
        return NONE;
    }

    int avoids(int i, int what) {
        if (what != 0 && what != 1) {
            return REFUSED;
        }
        if (space == null || !in(i, 0, claims.size() - 1)) {
            return NONE;
        }
        List<Set<Integer>> reach = new ArrayList<>();
        for (int s = 0; s < space.size(); s++) {
            reach.add(reachWithoutFailing(i, s));
        }
        int least = NONE;
        int howMany = 0;
        for (int s = space.size() - 1; s >= 0; s--) {
            if (!failsIn(i, space.get(s)) && avoidsFrom(s, reach)) {
                least = s;
                howMany++;
            }
        }
        return what == 0 ? least : howMany;
    }

    private boolean avoidsFrom(int s, List<Set<Integer>> reach) {
        if (isStuck(space.get(s)) || reach.get(s).contains(s)) {
            return true;
        }
        for (int to : reach.get(s)) {
            if (isStuck(space.get(to)) || reach.get(to).contains(to)) {
                return true;
            }
        }
        return false;
    }

    /** Where one comes from s by one step or more, over STATES in which CLAIM i does not FAIL. */
    private Set<Integer> reachWithoutFailing(int i, int s) {
        Set<Integer> reached = new HashSet<>();
        ArrayDeque<Integer> waiting = new ArrayDeque<>(List.of(s));
        while (!waiting.isEmpty()) {
            State at = space.get(waiting.remove());
            for (int t : open(at)) {
                State to = leadsTo(t, at);
                int number = numbers.get(to.key());
                if (!failsIn(i, to) && reached.add(number)) {
                    waiting.add(number);
                }
            }
        }
        return reached;
    }

    private boolean has(int s) {
        return space != null && in(s, 0, space.size() - 1);
    }

    int way(int s, int k) {
        if (!has(s)) {
            return NONE;
        }
        List<Integer> way = ways.get(s);
        if (k == -1) {
            return way.size();
        }
        return in(k, 0, way.size() - 1) ? way.get(k) : NONE;
    }

    private static int part(State s, int what) {
        if (what <= 2) {
            return s.places()[what];
        }
        if (what <= 6) {
            return s.variables()[what - 3];
        }
        if (what == 7) {
            return s.channel().size();
        }
        return what - 8 < s.channel().size() ? s.channel().get(what - 8) : NONE;
    }

    int state(int s, int what) {
        if (!in(what, 0, 12)) {
            return REFUSED;
        }
        if (!has(s)) {
            return NONE;
        }
        State it = space.get(s);
        List<Integer> next = new ArrayList<>();
        for (int t : open(it)) {
            next.add(numbers.get(leadsTo(t, it).key()));
        }
        switch (what) {
            case 10:
                return next.size();
            case 11:
                return new HashSet<>(next).size();
            case 12:
                return next.isEmpty() ? NONE : next.get(0);
            default:
                return part(it, what);
        }
    }

    boolean walk(int t) {
        if (!in(t, 0, transitions.size() - 1) || !isOpen(t, stateNow)) {
            return false;
        }
        stateNow = leadsTo(t, stateNow);
        steps++;
        return true;
    }

    boolean go(int s) {
        if (!has(s)) {
            return false;
        }
        stateNow = space.get(s).copy();
        return true;
    }

    int now(int what) {
        if (!in(what, 0, 13)) {
            return REFUSED;
        }
        switch (what) {
            case 10:
                return open(stateNow).size();
            case 11:
                return space == null ? NONE : numbers.getOrDefault(stateNow.key(), NONE);
            case 12:
                int failing = 0;
                for (int i = 0; i < claims.size(); i++) {
                    failing += failsIn(i, stateNow) ? 1 : 0;
                }
                return failing;
            case 13:
                return steps;
            default:
                return part(stateNow, what);
        }
    }

    int count(int what) {
        if (!in(what, 0, 6) && !in(what, 10, 33)) {
            return REFUSED;
        }
        if (what <= 1) {
            return what == 0 ? transitions.size() : claims.size();
        }
        if (space == null || what - 10 >= transitions.size()) {
            return NONE;
        }
        int sum = 0;
        for (int s = 0; s < space.size(); s++) {
            State it = space.get(s);
            if (what == 2) {
                sum++;
            } else if (what == 3) {
                sum += open(it).size();
            } else if (what == 4) {
                sum = Math.max(sum, ways.get(s).size());
            } else if (what == 5) {
                sum += isStuck(it) ? 1 : 0;
            } else if (what == 6) {
                sum += isDone(it) ? 1 : 0;
            } else {
                sum += isOpen(what - 10, it) ? 1 : 0;
            }
        }
        return sum;
    }
}
