import java.io.IOException;

public final class P01EdgesTest {
    public static void main(String[] args) throws IOException {
        Sentences said = new Sentences("Promise 1: A new object");
        said.hold("No TRANSITIONS,", P01EdgesTest::noTransitions);
        said.hold("no CLAIMS,", P01EdgesTest::noClaims);
        said.hold("all VARIABLES begin with 0;", P01EdgesTest::variablesAreZero);
        said.hold("there is no SPACE.", due -> NoSpace.in(due, new ClaimDesk()));
        said.end();
    }

    private static void noTransitions(Due due) {
        ClaimDesk desk = new ClaimDesk();
        due.is("count(0)", desk.count(0), 0);
        due.is("now(10)", desk.now(10), 0);
        due.no("walk(0)", desk.walk(0));
        due.no("change(0, 0, 0, 1, 0)", desk.change(0, 0, 0, 1, 0));
        due.is("explore()", desk.explore(), 1);
        due.is("count(10)", desk.count(10), ClaimDesk.NONE);
        due.is("clear()", desk.clear(), 0);
        due.is("the first add", desk.add(0, 0, 1, 0), 0);
    }

    private static void noClaims(Due due) {
        ClaimDesk desk = new ClaimDesk();
        due.is("count(1)", desk.count(1), 0);
        due.is("now(12)", desk.now(12), 0);
        desk.explore();
        due.is("fails(0)", desk.fails(0), ClaimDesk.NONE);
        due.is("avoids(0, 0)", desk.avoids(0, 0), ClaimDesk.NONE);
        due.is("avoids(0, 1)", desk.avoids(0, 1), ClaimDesk.NONE);
        due.is("the first claim", desk.claim(0, 0, 0), 0);
    }

    private static void variablesAreZero(Due due) {
        StateEdges.isFirst(due, new ClaimDesk(), 0);
        ClaimDesk desk = new ClaimDesk();
        desk.explore();
        for (int v = 0; v <= 3; v++) {
            due.is("VARIABLE " + v + " of STATE 0", desk.state(0, 3 + v), 0);
        }
    }
}
