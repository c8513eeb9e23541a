import java.io.IOException;

public final class P04EdgesTest {
    public static void main(String[] args) throws IOException {
        Sentences said = new Sentences("Promise 4: change");
        said.hold("TRANSITION t is another one, as for add: true;", P04EdgesTest::anotherOne);
        said.hold("there is no SPACE any more.", P04EdgesTest::noSpaceAnyMore);
        said.hold("False, changing nothing, if there is none such,", P04EdgesTest::noneSuch);
        said.hold("or a number is not as said.", P04EdgesTest::notAsSaid);
        said.end();
    }

    /** The first and the last of 24, with the least and the greatest numbers. */
    private static void anotherOne(Due due) {
        ClaimDesk desk = new ClaimDesk();
        for (int t = 0; t < 24; t++) {
            desk.add(1, 7, 0, Op.PASS);
        }
        due.yes("change(0) to the least", desk.change(0, 0, 0, 0, 0));
        due.yes("change(23) to the greatest", desk.change(23, 2, 7, 7, 127));
        due.is("now(10)", desk.now(10), 1);
        due.yes("walk(0)", desk.walk(0));
        due.yes("change(23)", desk.change(23, 2, 0, 7, Op.set(3, 3)));
        due.yes("walk(23)", desk.walk(23));
        due.is("now(2)", desk.now(2), 7);
        due.is("now(6)", desk.now(6), 3);
        due.no("walk(22), which is as it was", desk.walk(22));
        due.no("walk(1), which is as it was", desk.walk(1));
        due.is("count(0)", desk.count(0), 24);
        due.is("the STATE NOW and the steps stay", desk.now(13), 2);
    }

    private static void noSpaceAnyMore(Due due) {
        ClaimDesk desk = Desks.busy();
        due.yes("change to another one", desk.change(2, 0, 1, 1, Op.set(0, 3)));
        NoSpace.in(due, desk);
        desk.explore();
        due.yes("change to what it was", desk.change(2, 0, 1, 1, Op.set(0, 3)));
        NoSpace.in(due, desk);
        due.is("the STATE NOW stays", desk.now(3), 2);
        due.is("and so do the steps", desk.now(13), 2);
    }

    private static void noneSuch(Due due) {
        for (int t : Outside.of(0, 2)) {
            unchanged(due, t, 2, 0, 5, 1);
        }
        unchanged(due, 23, 2, 0, 5, 1);
        unchanged(due, 24, 2, 0, 5, 1);
        for (int t : new int[] {-1, 24}) {
            Twins.unchanged(due, "change(" + t + ", ..) with 24", Desks::full,
                    d -> Twins.told(d.change(t, 2, 0, 5, 1)), 0);
        }
        due.yes("change(2, ..) of three", Desks.busy().change(2, 2, 0, 5, 1));
        due.yes("change(23, ..) of 24", Desks.full().change(23, 2, 0, 5, 1));
        ClaimDesk cleared = Desks.full();
        cleared.clear();
        due.no("change(0, ..) after clear", cleared.change(0, 2, 0, 5, 1));
        due.is("count(0)", cleared.count(0), 0);
        due.is("now(10)", cleared.now(10), 0);
    }

    private static void notAsSaid(Due due) {
        for (int wrong : Outside.of(0, 2)) {
            unchanged(due, 0, wrong, 0, 5, 1);
        }
        for (int wrong : Outside.of(0, 7)) {
            unchanged(due, 0, 2, wrong, 5, 1);
            unchanged(due, 0, 2, 0, wrong, 1);
        }
        for (int wrong : Outside.of(0, 127)) {
            unchanged(due, 0, 2, 0, 5, wrong);
        }
    }

    private static void unchanged(Due due, int t, int process, int from, int to, int op) {
        Twins.unchanged(due, "change(" + t + ", " + process + ", " + from + ", " + to + ", " + op + ")",
                Desks::busy, d -> Twins.told(d.change(t, process, from, to, op)), 0);
    }
}
