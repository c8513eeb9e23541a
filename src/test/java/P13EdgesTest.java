import java.io.IOException;

public final class P13EdgesTest {
    public static void main(String[] args) throws IOException {
        Sentences said = new Sentences("Promise 13: walk");
        said.hold("One walks by TRANSITION t: true, and the STATE NOW is that to which it LEADS;",
                P13EdgesTest::leads);
        said.hold("false if it is not OPEN in it,", P13EdgesTest::notOpen);
        said.hold("or there is none such.", P13EdgesTest::noneSuch);
        said.end();
    }

    /** By the first and the last of 24, to a new STATE and to the same one, with a SPACE and without. */
    private static void leads(Due due) {
        ClaimDesk desk = new ClaimDesk();
        desk.add(0, 0, 0, Op.PASS);
        for (int t = 1; t < 23; t++) {
            desk.add(1, 1, 1, Op.PASS);
        }
        desk.add(2, 0, 7, Op.send(0));
        due.yes("walk(0) to the same STATE", desk.walk(0));
        StateEdges.isFirst(due, desk, 0);
        due.is("now(13)", desk.now(13), 1);
        due.yes("walk(23)", desk.walk(23));
        due.is("now(2)", desk.now(2), 7);
        due.is("now(7)", desk.now(7), 1);
        due.is("now(13)", desk.now(13), 2);
        due.no("walk(23) again", desk.walk(23));
        due.is("count(2)", desk.count(2), ClaimDesk.NONE);
        desk.explore();
        due.yes("walk(0) with a SPACE", desk.walk(0));
        due.is("now(11)", desk.now(11), 1);
        due.is("count(2) stays", desk.count(2), 2);
        ClaimDesk row = Desks.longRow();
        row.explore();
        row.go(298);
        due.yes("walk(9) to the last of 300", row.walk(9));
        due.is("now(11)", row.now(11), 299);
    }

    /** Only the first TRANSITION is OPEN at the beginning, the others are not for one reason each. */
    private static ClaimDesk withShutOnes() {
        ClaimDesk desk = new ClaimDesk();
        desk.add(0, 0, 1, Op.PASS);
        desk.add(0, 1, 2, Op.PASS);
        desk.add(1, 0, 2, Op.is(0, 2));
        desk.add(1, 0, 2, Op.isNot(0, 0));
        desk.add(1, 0, 2, Op.take(0));
        desk.explore();
        return desk;
    }

    private static ClaimDesk withFullChannel() {
        ClaimDesk desk = new ClaimDesk();
        desk.add(0, 0, 0, Op.send(0));
        desk.explore();
        desk.walk(0);
        desk.walk(0);
        return desk;
    }

    private static void notOpen(Due due) {
        due.yes("walk(0), which is OPEN", withShutOnes().walk(0));
        unchanged(due, "from another PLACE", 1);
        unchanged(due, "by IS", 2);
        unchanged(due, "by IS NOT", 3);
        unchanged(due, "by TAKE of nothing", 4);
        Twins.unchanged(due, "walk by SEND with the CHANNEL full", P13EdgesTest::withFullChannel,
                d -> Twins.told(d.walk(0)), 0);
    }

    private static void unchanged(Due due, String why, int t) {
        Twins.unchanged(due, "walk " + why, P13EdgesTest::withShutOnes, d -> Twins.told(d.walk(t)), 0);
    }

    private static void noneSuch(Due due) {
        for (int t : Outside.of(0, 2)) {
            Twins.unchanged(due, "walk(" + t + ") of 3", Desks::busy, d -> Twins.told(d.walk(t)), 0);
        }
        for (int t : Outside.of(0, 23)) {
            Twins.unchanged(due, "walk(" + t + ") of 24", Desks::full, d -> Twins.told(d.walk(t)), 0);
        }
        ClaimDesk none = new ClaimDesk();
        due.no("walk(0) of none", none.walk(0));
        ClaimDesk cleared = Desks.full();
        cleared.clear();
        due.no("walk(0) after clear", cleared.walk(0));
        due.no("walk(23) after clear", cleared.walk(23));
        due.is("now(13)", cleared.now(13), 0);
    }
}
