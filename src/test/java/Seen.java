import java.util.ArrayList;
import java.util.List;

/** All that can be asked of an object, as rows of calls and answers: one row for each call. */
final class Seen {
    private final List<String> rows = new ArrayList<>();
    private final ClaimDesk desk;

    private Seen(ClaimDesk desk) {
        this.desk = desk;
    }

    static List<String> all(ClaimDesk desk) {
        Seen seen = new Seen(desk);
        int states = seen.row("count(2)", desk.count(2));
        seen.otherCounts();
        seen.stateNow();
        seen.claims();
        seen.row("stuck(false)", desk.stuck(false));
        seen.row("stuck(true)", desk.stuck(true));
        for (int s = 0; s <= Math.max(states, 0); s++) {
            seen.state(s);
        }
        return seen.rows;
    }

    private int row(String call, int answer) {
        rows.add(call + " = " + answer);
        return answer;
    }

    private void otherCounts() {
        for (int what = 0; what <= 33; what++) {
            if (what != 2 && (what < 7 || what > 9)) {
                row("count(" + what + ")", desk.count(what));
            }
        }
    }

    private void stateNow() {
        for (int what = 0; what <= 13; what++) {
            row("now(" + what + ")", desk.now(what));
        }
    }

    private void claims() {
        for (int i = 0; i <= 5; i++) {
            row("fails(" + i + ")", desk.fails(i));
            row("avoids(" + i + ", 0)", desk.avoids(i, 0));
            row("avoids(" + i + ", 1)", desk.avoids(i, 1));
        }
    }

    private void state(int s) {
        for (int what = 0; what <= 12; what++) {
            row("state(" + s + ", " + what + ")", desk.state(s, what));
        }
        int length = row("way(" + s + ", -1)", desk.way(s, -1));
        for (int k = 0; k <= length; k++) {
            row("way(" + s + ", " + k + ")", desk.way(s, k));
        }
    }
}
