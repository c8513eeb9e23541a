import java.io.IOException;

public final class P15EdgesTest {
    public static void main(String[] args) throws IOException {
        Sentences said = new Sentences("Promise 15: now");
        said.hold("Of the STATE NOW what 0 to 9: as for state;", P15EdgesTest::asForState);
        said.hold("10: how many TRANSITIONS are OPEN in it;", P15EdgesTest::open);
        said.hold("11: the number of this STATE in the SPACE", P15EdgesTest::numberInSpace);
        said.hold("(NONE if it is none of its STATES,", P15EdgesTest::outsideTheSpace);
        said.hold("or there is no SPACE);", P15EdgesTest::noSpace);
        said.hold("12: how many CLAIMS FAIL in it;", P15EdgesTest::failing);
        said.hold("13: how many steps were walked since begin or clear, or the beginning.", P15EdgesTest::steps);
        said.hold("REFUSED for another what.", P15EdgesTest::refused);
        said.end();
    }

    /** The least of all, with the CHANNEL empty, half and full, and the greatest of all. */
    private static void asForState(Due due) {
        StateEdges.isFirst(due, new ClaimDesk(), 0);
        ClaimDesk desk = new ClaimDesk();
        desk.begin(255);
        desk.add(0, 0, 7, Op.send(0));
        desk.add(1, 0, 7, Op.send(3));
        desk.add(2, 0, 7, Op.PASS);
        desk.explore();
        int[][] rows = {
            {0, 0, 0, 3, 3, 3, 3, 0, ClaimDesk.NONE, ClaimDesk.NONE},
            {7, 0, 0, 3, 3, 3, 3, 1, 3, ClaimDesk.NONE},
            {7, 7, 0, 3, 3, 3, 3, 2, 3, 3},
            {7, 7, 7, 3, 3, 3, 3, 2, 3, 3},
        };
        for (int step = 0; step <= 3; step++) {
            int s = desk.now(11);
            for (int what = 0; what <= 9; what++) {
                due.is("now(" + what + ") with " + step + " steps", desk.now(what), rows[step][what]);
                due.is("state(" + s + ", " + what + ")", desk.state(s, what), rows[step][what]);
            }
            desk.walk(step);
        }
    }

    private static void open(Due due) {
        due.is("now(10) of none", new ClaimDesk().now(10), 0);
        ClaimDesk desk = new ClaimDesk();
        for (int t = 0; t < 24; t++) {
            desk.add(t % 3, 0, 7, Op.PASS);
            due.is("now(10) with no SPACE", desk.now(10), t + 1);
        }
        int[] left = {16, 8, 0};
        for (int p = 0; p <= 2; p++) {
            desk.walk(p);
            due.is("now(10) with " + (p + 1) + " gone", desk.now(10), left[p]);
        }
        desk.clear();
        due.is("now(10) after clear", desk.now(10), 0);
    }

    private static void numberInSpace(Due due) {
        ClaimDesk row = Desks.longRow();
        row.explore();
        due.is("now(11) of the first", row.now(11), 0);
        row.go(299);
        due.is("now(11) of the last of 300", row.now(11), 299);
        ClaimDesk walked = Desks.chain(3);
        walked.walk(0);
        walked.walk(1);
        walked.explore();
        due.is("now(11) of one that was there before the SPACE", walked.now(11), 2);
        walked.add(1, 0, 1, Op.PASS);
        walked.change(3, 0, 0, 2, Op.PASS);
        walked.explore();
        due.is("now(11) when it is found before", walked.now(11), 2);
        walked.change(0, 0, 5, 5, Op.PASS);
        walked.explore();
        due.is("now(11) when it is found first", walked.now(11), 1);
    }

    private static void outsideTheSpace(Due due) {
        ClaimDesk desk = Desks.chain(2);
        desk.walk(0);
        desk.change(0, 0, 1, 2, Op.PASS);
        due.is("explore()", desk.explore(), 1);
        due.is("now(11)", desk.now(11), ClaimDesk.NONE);
        due.is("now(0)", desk.now(0), 1);
        due.yes("go(0)", desk.go(0));
        due.is("now(11) in it again", desk.now(11), 0);
        // STATES that differ from one of the SPACE in one part alone.
        for (int op : new int[] {Op.set(0, 1), Op.set(3, 1), Op.send(0)}) {
            ClaimDesk near = new ClaimDesk();
            near.add(0, 0, 0, op);
            near.walk(0);
            near.change(0, 0, 1, 1, Op.PASS);
            near.explore();
            due.is("now(11) near STATE 0", near.now(11), ClaimDesk.NONE);
        }
    }

    private static void noSpace(Due due) {
        due.is("now(11) of a new one", new ClaimDesk().now(11), ClaimDesk.NONE);
        ClaimDesk desk = Desks.busy();
        due.is("now(11)", desk.now(11), 3);
        desk.add(2, 7, 7, 0);
        due.is("now(11) after add", desk.now(11), ClaimDesk.NONE);
        desk.explore();
        due.is("now(11) explored again", desk.now(11), 3);
        desk.change(3, 2, 7, 7, 0);
        due.is("now(11) after change", desk.now(11), ClaimDesk.NONE);
        desk.explore();
        desk.begin(0b01_11_10_01);
        due.is("now(11) after begin", desk.now(11), ClaimDesk.NONE);
        desk.explore();
        due.is("now(11) explored again", desk.now(11), 0);
        desk.clear();
        due.is("now(11) after clear", desk.now(11), ClaimDesk.NONE);
        ClaimDesk large = Desks.tooLong();
        large.explore();
        due.is("now(11) where it is LARGE", large.now(11), ClaimDesk.NONE);
    }

    private static void failing(Due due) {
        ClaimDesk desk = Desks.chain(1);
        due.is("now(12) of none", desk.now(12), 0);
        for (int i = 0; i < 6; i++) {
            desk.claim(1, 0, 0);
            due.is("now(12) with no SPACE", desk.now(12), i + 1);
        }
        desk.claim(1, 0, 0);
        due.is("now(12) after FULL", desk.now(12), 6);
        desk.walk(0);
        due.is("now(12) elsewhere", desk.now(12), 0);
        desk.clear();
        due.is("now(12) after clear", desk.now(12), 0);
    }

    private static void steps(Due due) {
        ClaimDesk most = new ClaimDesk();
        most.add(0, 0, 0, Op.PASS);
        due.is("now(13) at the beginning", most.now(13), 0);
        for (int step = 0; step < 509; step++) {
            most.walk(0);
        }
        due.is("now(13) as the 512th call", most.now(13), 509);
        ClaimDesk desk = Desks.busy();
        due.is("now(13)", desk.now(13), 2);
        desk.walk(0);
        desk.walk(99);
        due.is("now(13) after walks that were none", desk.now(13), 2);
        desk.go(0);
        desk.add(2, 7, 7, 0);
        desk.change(3, 2, 7, 6, 0);
        desk.claim(1, 0, 0);
        desk.explore();
        desk.begin(256);
        due.is("now(13) after what is no step", desk.now(13), 2);
        desk.walk(0);
        due.is("now(13) with one more", desk.now(13), 3);
        desk.begin(0);
        due.is("now(13) after begin", desk.now(13), 0);
        desk.walk(0);
        due.is("now(13) with one step", desk.now(13), 1);
        desk.clear();
        due.is("now(13) after clear", desk.now(13), 0);
    }

    private static void refused(Due due) {
        for (int what : Outside.of(0, 13)) {
            String call = "now(" + what + ")";
            Twins.unchanged(due, call, Desks::busy, d -> d.now(what), ClaimDesk.REFUSED);
            Twins.unchanged(due, call + " with no SPACE", Desks::planned, d -> d.now(what), ClaimDesk.REFUSED);
            due.is(call + " of a new one", new ClaimDesk().now(what), ClaimDesk.REFUSED);
        }
        for (int what = 0; what <= 13; what++) {
            due.is("now(" + what + ") is not", new ClaimDesk().now(what) != ClaimDesk.REFUSED, true);
        }
    }
}
