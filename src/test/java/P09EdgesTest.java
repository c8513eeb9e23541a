import java.io.IOException;

public final class P09EdgesTest {
    public static void main(String[] args) throws IOException {
        Sentences said = new Sentences("Promise 9: stuck");
        said.hold("The least STATE of the SPACE that is STUCK and, with done false, not DONE,",
                P09EdgesTest::leastNotDone);
        said.hold("with done true, DONE;", P09EdgesTest::leastDone);
        said.hold("NONE if there is none,", P09EdgesTest::noneSuch);
        said.hold("or no SPACE.", P09EdgesTest::noSpace);
        said.end();
    }

    /** STATE 0 goes on; of those that are STUCK the ones before and behind are DONE, or the other way round. */
    private static ClaimDesk ends(int first, int second, int third) {
        ClaimDesk desk = new ClaimDesk();
        desk.add(1, 0, 7, Op.PASS);
        desk.add(2, 0, 7, Op.PASS);
        desk.add(0, 0, first, Op.set(1, 1));
        desk.add(0, 0, second, Op.set(1, 2));
        desk.add(0, 0, third, Op.set(1, 3));
        desk.explore();
        return desk;
    }

    private static void leastNotDone(Due due) {
        due.is("all three", valueOf(ends(6, 6, 6), false), 1);
        due.is("behind one that is DONE", valueOf(ends(7, 6, 6), false), 2);
        due.is("behind two that are DONE", valueOf(ends(7, 7, 6), false), 3);
        due.is("before those that are DONE", valueOf(ends(6, 7, 7), false), 1);
        ClaimDesk empty = new ClaimDesk();
        empty.explore();
        due.is("the only STATE", empty.stuck(false), 0);
        ClaimDesk row = Desks.longRow();
        row.explore();
        due.is("the last one of 300", row.stuck(false), 299);
    }

    private static void leastDone(Due due) {
        due.is("all three", valueOf(ends(7, 7, 7), true), 1);
        due.is("behind one that is not DONE", valueOf(ends(6, 7, 7), true), 2);
        due.is("behind two that are not DONE", valueOf(ends(6, 6, 7), true), 3);
        due.is("before those that are not DONE", valueOf(ends(7, 6, 6), true), 1);
    }

    private static int valueOf(ClaimDesk desk, boolean done) {
        return desk.state(desk.stuck(done), 4);
    }

    private static void noneSuch(Due due) {
        due.is("not DONE where all are", ends(7, 7, 7).stuck(false), ClaimDesk.NONE);
        due.is("DONE where none is", ends(6, 6, 6).stuck(true), ClaimDesk.NONE);
        ClaimDesk round = new ClaimDesk();
        Desks.addRound(round, 0, 8);
        round.explore();
        due.is("stuck(false) in a round", round.stuck(false), ClaimDesk.NONE);
        due.is("stuck(true) in a round", round.stuck(true), ClaimDesk.NONE);
        ClaimDesk itself = new ClaimDesk();
        itself.add(0, 0, 0, 0);
        itself.explore();
        due.is("stuck(false) where one leads to the STATE itself", itself.stuck(false), ClaimDesk.NONE);
    }

    private static void noSpace(Due due) {
        both(due, "of a new one", new ClaimDesk());
        ClaimDesk desk = Desks.allToSeven();
        both(due, "before explore", desk);
        desk.explore();
        due.is("stuck(true)", desk.stuck(true), 7);
        desk.add(0, 1, 1, 0);
        both(due, "after add", desk);
        desk.explore();
        desk.change(3, 0, 2, 2, 0);
        both(due, "after change", desk);
        desk.explore();
        desk.begin(0);
        both(due, "after begin", desk);
        desk.explore();
        desk.clear();
        both(due, "after clear", desk);
        ClaimDesk large = Desks.tooLong();
        large.explore();
        both(due, "where it is LARGE", large);
    }

    private static void both(Due due, String when, ClaimDesk desk) {
        due.is("stuck(false) " + when, desk.stuck(false), ClaimDesk.NONE);
        due.is("stuck(true) " + when, desk.stuck(true), ClaimDesk.NONE);
    }
}
