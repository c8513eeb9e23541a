import java.io.IOException;

public final class P02EdgesTest {
    public static void main(String[] args) throws IOException {
        Sentences said = new Sentences("Promise 2: begin");
        said.hold("VARIABLE k begins with the digit number k (0 the lowest) of values to base 4 (0 to 255): true;",
                P02EdgesTest::digits);
        said.hold("the STATE NOW is the FIRST STATE,", P02EdgesTest::stateNowIsFirst);
        said.hold("and there is no SPACE any more.", P02EdgesTest::noSpaceAnyMore);
        said.hold("False if values is not as said.", P02EdgesTest::notAsSaid);
        said.end();
    }

    /** The edges: all digits 0 and all 3, and each digit with its neighbours just below a carry. */
    private static void digits(Due due) {
        int[] edges = {0, 1, 3, 4, 15, 16, 63, 64, 192, 254, 255};
        for (int values : edges) {
            ClaimDesk desk = new ClaimDesk();
            due.yes("begin(" + values + ")", desk.begin(values));
            StateEdges.isFirst(due, desk, values);
        }
    }

    private static void stateNowIsFirst(Due due) {
        ClaimDesk desk = new ClaimDesk();
        for (int p = 0; p <= 2; p++) {
            desk.add(p, 0, 7, p < 2 ? Op.send(p) : Op.set(2, 3));
        }
        for (int values : new int[] {0, 27, 255, 0}) {
            for (int t = 0; t < 3; t++) {
                due.yes("walk(" + t + ")", desk.walk(t));
            }
            due.is("the CHANNEL is full", desk.now(7), 2);
            due.yes("begin(" + values + ")", desk.begin(values));
            StateEdges.isFirst(due, desk, values);
            due.is("now(13)", desk.now(13), 0);
        }
    }

    /** With the same values too, and when there was no SPACE before. */
    private static void noSpaceAnyMore(Due due) {
        ClaimDesk desk = Desks.busy();
        for (int values : new int[] {0, 0, 255}) {
            due.yes("begin(" + values + ")", desk.begin(values));
            NoSpace.in(due, desk);
            due.is("explore()", desk.explore(), 5);
        }
        ClaimDesk none = Desks.planned();
        due.yes("begin(0)", none.begin(0));
        NoSpace.in(due, none);
    }

    private static void notAsSaid(Due due) {
        for (int values : Outside.of(0, 255)) {
            Twins.unchanged(due, "begin(" + values + ")", Desks::busy, d -> Twins.told(d.begin(values)), 0);
        }
        Twins.unchanged(due, "begin(256) on a new one", ClaimDesk::new, d -> Twins.told(d.begin(256)), 0);
        Twins.unchanged(due, "begin(-1) on a new one", ClaimDesk::new, d -> Twins.told(d.begin(-1)), 0);
    }
}
