import java.io.IOException;

public final class P03EdgesTest {
    public static void main(String[] args) throws IOException {
        Sentences said = new Sentences("Promise 3: add");
        said.hold("A TRANSITION of a PROCESS (0 to 2)", P03EdgesTest::processes);
        said.hold("from a PLACE (0 to 7)", P03EdgesTest::placesFrom);
        said.hold("to a PLACE (0 to 7),", P03EdgesTest::placesTo);
        said.hold("with the KIND op / 16 (0 to 7), a = (op / 4) mod 4, b = op mod 4 (op 0 to 127):",
                P03EdgesTest::ops);
        said.hold("its number;", P03EdgesTest::numbers);
        said.hold("there is no SPACE any more,", P03EdgesTest::noSpaceAnyMore);
        said.hold("the STATE NOW stays.", P03EdgesTest::stateNowStays);
        said.hold("REFUSED if a number is not as said;", P03EdgesTest::refused);
        said.hold("FULL if there are 24.", P03EdgesTest::full);
        said.end();
    }

    private static void add(Due due, int process, int from, int to, int op, int answer) {
        due.is("add(" + process + ", " + from + ", " + to + ", " + op + ")",
                new ClaimDesk().add(process, from, to, op), answer);
    }

    private static void processes(Due due) {
        add(due, -1, 0, 0, 0, ClaimDesk.REFUSED);
        add(due, 0, 0, 0, 0, 0);
        add(due, 1, 0, 0, 0, 0);
        add(due, 2, 0, 0, 0, 0);
        add(due, 3, 0, 0, 0, ClaimDesk.REFUSED);
    }

    private static void placesFrom(Due due) {
        add(due, 2, -1, 7, 0, ClaimDesk.REFUSED);
        add(due, 2, 0, 7, 0, 0);
        add(due, 2, 7, 7, 0, 0);
        add(due, 2, 8, 7, 0, ClaimDesk.REFUSED);
        ClaimDesk desk = new ClaimDesk();
        desk.add(2, 0, 7, Op.PASS);
        desk.add(2, 7, 0, Op.PASS);
        due.no("walk from 7 at 0", desk.walk(1));
        due.yes("walk from 0 at 0", desk.walk(0));
        due.no("walk from 0 at 7", desk.walk(0));
        due.yes("walk from 7 at 7", desk.walk(1));
    }

    private static void placesTo(Due due) {
        add(due, 2, 7, -1, 0, ClaimDesk.REFUSED);
        add(due, 2, 7, 0, 0, 0);
        add(due, 2, 7, 7, 0, 0);
        add(due, 2, 7, 8, 0, ClaimDesk.REFUSED);
        for (int to = 0; to <= 7; to++) {
            ClaimDesk desk = new ClaimDesk();
            desk.add(1, 0, to, Op.PASS);
            desk.walk(0);
            due.is("now(1) behind it", desk.now(1), to);
        }
    }

    private static void ops(Due due) {
        add(due, 2, 7, 7, -1, ClaimDesk.REFUSED);
        add(due, 2, 7, 7, 0, 0);
        add(due, 2, 7, 7, 127, 0);
        add(due, 2, 7, 7, 128, ClaimDesk.REFUSED);
        // SET, of which each a and each b is seen.
        for (int op = 48; op <= 63; op++) {
            ClaimDesk desk = new ClaimDesk();
            desk.add(0, 0, 0, op);
            desk.walk(0);
            for (int v = 0; v <= 3; v++) {
                due.is("VARIABLE " + v + " by op " + op, desk.now(3 + v), v == (op - 48) / 4 ? op % 4 : 0);
            }
        }
        TransitionEdges.kindsAndNumbers(due);
    }

    private static void numbers(Due due) {
        ClaimDesk desk = new ClaimDesk();
        for (int t = 0; t < 24; t++) {
            due.is("add", desk.add(0, 0, 0, 0), t);
            due.is("count(0)", desk.count(0), t + 1);
            due.is("a refused one takes no number", desk.add(0, 0, 0, 128), ClaimDesk.REFUSED);
        }
        due.is("clear()", desk.clear(), 24);
        due.is("the first one again", desk.add(0, 0, 0, 0), 0);
    }

    private static void noSpaceAnyMore(Due due) {
        ClaimDesk desk = Desks.busy();
        due.is("add", desk.add(2, 7, 7, 0), 3);
        NoSpace.in(due, desk);
        ClaimDesk last = new ClaimDesk();
        for (int t = 0; t < 23; t++) {
            last.add(0, 0, 0, 0);
        }
        last.explore();
        due.is("the 24th add", last.add(0, 0, 0, 0), 23);
        NoSpace.in(due, last);
    }

    private static void stateNowStays(Due due) {
        ClaimDesk desk = Desks.busy();
        ClaimDesk other = Desks.busy();
        desk.add(2, 7, 7, 0);
        for (int what = 0; what <= 13; what++) {
            int want = what == 11 ? ClaimDesk.NONE : other.now(what);
            due.is("now(" + what + ")", desk.now(what), want);
        }
        desk.add(1, 0, 1, Op.PASS);
        due.is("now(10), which counts the new one", desk.now(10), other.now(10) + 1);
    }

    private static void refused(Due due) {
        for (int wrong : Outside.of(0, 2)) {
            unchanged(due, wrong, 0, 1, 0);
        }
        for (int wrong : Outside.of(0, 7)) {
            unchanged(due, 0, wrong, 1, 0);
            unchanged(due, 0, 0, wrong, 0);
        }
        for (int wrong : Outside.of(0, 127)) {
            unchanged(due, 0, 0, 1, wrong);
        }
    }

    private static void unchanged(Due due, int process, int from, int to, int op) {
        String call = "add(" + process + ", " + from + ", " + to + ", " + op + ")";
        Twins.unchanged(due, call, Desks::busy, d -> d.add(process, from, to, op), ClaimDesk.REFUSED);
        Twins.unchanged(due, call + " with 24", Desks::full, d -> d.add(process, from, to, op), ClaimDesk.REFUSED);
    }

    private static void full(Due due) {
        ClaimDesk desk = new ClaimDesk();
        for (int t = 0; t < 23; t++) {
            desk.add(0, 0, 1, 0);
        }
        due.is("add with 23", desk.add(0, 0, 2, 0), 23);
        due.is("add with 24", desk.add(0, 0, 3, 0), ClaimDesk.FULL);
        due.is("add with 24 again", desk.add(0, 0, 3, 0), ClaimDesk.FULL);
        due.is("the last one is as it was", desk.explore(), 3);
        Twins.unchanged(due, "add with 24", Desks::full, d -> d.add(2, 0, 1, 0), ClaimDesk.FULL);
    }
}
