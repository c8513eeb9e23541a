import java.util.ArrayList;
import java.util.List;
import java.util.Random;

/** What is gone through, drawn from a seed, so that the same object can be made again for each 512 calls. */
final class Plan {
    private static final int[][] CLAIMS = {{0, 0, 1}, {0, 3, 2}, {1, 0, 2}, {1, 1, 3}, {2, 0, 1}, {3, 2, 0}, {4, 1, 0}};

    final int number;
    private final int values;
    private final List<int[]> transitions = new ArrayList<>();

    private Plan(int number) {
        this.number = number;
        Random random = new Random(number);
        values = random.nextInt(256);
        int places = 2 + random.nextInt(4);
        int howMany = 2 + random.nextInt(9);
        for (int t = 0; t < howMany; t++) {
            transitions.add(new int[] {
                random.nextInt(3), random.nextInt(places), random.nextInt(places), random.nextInt(128)});
        }
    }

    /** Plans whose SPACE is not LARGE and has some STATES. */
    static List<Plan> some() {
        List<Plan> some = new ArrayList<>();
        for (int number = 0; number < 400; number++) {
            Plan plan = new Plan(number);
            if (plan.explored().count(2) > 5) {
                some.add(plan);
            }
        }
        return some;
    }

    int claims() {
        return CLAIMS.length;
    }

    int transitions() {
        return transitions.size();
    }

    /** With no CLAIMS and no SPACE. */
    ClaimDesk bare() {
        ClaimDesk desk = new ClaimDesk();
        desk.begin(values);
        for (int[] x : transitions) {
            desk.add(x[0], x[1], x[2], x[3]);
        }
        return desk;
    }

    ClaimDesk explored() {
        ClaimDesk desk = bare();
        desk.explore();
        return desk;
    }

    /** With one CLAIM, which is number 0 of the object. */
    ClaimDesk claimed(int which) {
        ClaimDesk desk = bare();
        desk.claim(CLAIMS[which][0], CLAIMS[which][1], CLAIMS[which][2]);
        desk.explore();
        return desk;
    }
}
