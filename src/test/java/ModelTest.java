import java.util.Random;

/** Long runs of calls drawn from fixed seeds, each answer compared with that of Model. */
public final class ModelTest {
    private static final int RUNS = 600;
    private static final int CALLS = 512;
    private static final int[] ODD = {-1, -2, 1000, Integer.MAX_VALUE, Integer.MIN_VALUE};

    private final Due due;
    private final Random random;
    private final int run;
    private final ClaimDesk desk = new ClaimDesk();
    private final Model model = new Model();
    /** Few PLACES and PROCESSES make STATES meet again; many make the SPACE LARGE. */
    private final int places;
    private final int processes;
    private int large;

    private ModelTest(Due due, int run) {
        this.due = due;
        this.run = run;
        random = new Random(run);
        places = 2 + random.nextInt(7);
        processes = 1 + random.nextInt(3);
    }

    public static void main(String[] args) {
        Due due = new Due();
        int large = 0;
        for (int run = 0; run < RUNS && due.wrong() == 0; run++) {
            ModelTest test = new ModelTest(due, run);
            for (int call = 0; call < CALLS; call++) {
                test.callOne();
            }
            large += test.large;
        }
        due.yes("some SPACES were LARGE", large > 0);
        due.end();
    }

    /** Mostly from 0 to end - 1, at times the next one, seldom far out. */
    private int upTo(int end) {
        int chance = random.nextInt(60);
        if (chance == 0) {
            return ODD[random.nextInt(ODD.length)];
        }
        return chance == 1 ? end : random.nextInt(Math.max(end, 1));
    }

    private int process() {
        return random.nextInt(20) == 0 ? upTo(3) : random.nextInt(processes);
    }

    private int place() {
        int p = upTo(places);
        return p == places - 1 ? 7 : p;
    }

    private int someState() {
        int states = model.count(2);
        return upTo(states < 0 ? 3 : states);
    }

    private void is(String call, int got, int want) {
        due.is("run " + run + ": " + call, got, want);
    }

    private void is(String call, boolean got, boolean want) {
        due.is("run " + run + ": " + call, got, want);
    }

    private void callOne() {
        int chance = random.nextInt(100);
        if (chance < 12) {
            build(random.nextInt(12));
        } else if (chance < 20) {
            int states = model.explore();
            large += states == ClaimDesk.LARGE ? 1 : 0;
            is("explore()", desk.explore(), states);
        } else if (chance < 35) {
            move();
        } else {
            ask(random.nextInt(8));
        }
    }

    private void build(int which) {
        int p = process();
        int from = place();
        int to = place();
        int op = upTo(128);
        int t = upTo(model.count(0));
        if (which == 0 && random.nextInt(2) == 0) {
            int values = upTo(256);
            is("begin(" + values + ")", desk.begin(values), model.begin(values));
        } else if (which == 1 && random.nextInt(8) == 0) {
            is("clear()", desk.clear(), model.clear());
        } else if (which < 4) {
            is("change(" + t + ", " + p + ", " + from + ", " + to + ", " + op + ")",
                    desk.change(t, p, from, to, op), model.change(t, p, from, to, op));
        } else if (which < 7) {
            int sort = upTo(5);
            int a = upTo(4);
            int b = upTo(8) >> random.nextInt(3);
            is("claim(" + sort + ", " + a + ", " + b + ")", desk.claim(sort, a, b), model.claim(sort, a, b));
        } else {
            is("add(" + p + ", " + from + ", " + to + ", " + op + ")",
                    desk.add(p, from, to, op), model.add(p, from, to, op));
        }
    }

    private void move() {
        if (random.nextInt(4) == 0) {
            int s = someState();
            is("go(" + s + ")", desk.go(s), model.go(s));
        } else {
            int t = upTo(model.count(0));
            is("walk(" + t + ")", desk.walk(t), model.walk(t));
        }
    }

    private void ask(int which) {
        int s = someState();
        int i = upTo(model.count(1));
        if (which == 0) {
            is("fails(" + i + ")", desk.fails(i), model.fails(i));
        } else if (which == 1) {
            boolean done = random.nextBoolean();
            is("stuck(" + done + ")", desk.stuck(done), model.stuck(done));
        } else if (which == 2) {
            // The model's way is dear, so not each time.
            int what = random.nextInt(4) == 0 ? upTo(2) : 2;
            is("avoids(" + i + ", " + what + ")", desk.avoids(i, what), model.avoids(i, what));
        } else if (which == 3) {
            int k = random.nextInt(12) - 2;
            is("way(" + s + ", " + k + ")", desk.way(s, k), model.way(s, k));
        } else if (which == 4) {
            int what = upTo(13);
            is("state(" + s + ", " + what + ")", desk.state(s, what), model.state(s, what));
        } else if (which == 5) {
            int what = upTo(34);
            is("count(" + what + ")", desk.count(what), model.count(what));
        } else {
            int what = upTo(14);
            is("now(" + what + ")", desk.now(what), model.now(what));
        }
    }
}
