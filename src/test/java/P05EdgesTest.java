import java.io.IOException;

public final class P05EdgesTest {
    public static void main(String[] args) throws IOException {
        Sentences said = new Sentences("Promise 5: clear");
        said.hold("There are no TRANSITIONS and CLAIMS any more,", P05EdgesTest::noneAnyMore);
        said.hold("and no SPACE,", P05EdgesTest::noSpace);
        said.hold("the STATE NOW is the FIRST STATE (what begin said stays),", P05EdgesTest::firstState);
        said.hold("and no steps were walked:", P05EdgesTest::noSteps);
        said.hold("how many TRANSITIONS there were.", P05EdgesTest::howMany);
        said.end();
    }

    private static void noneAnyMore(Due due) {
        ClaimDesk desk = Desks.full();
        desk.clear();
        due.is("count(0)", desk.count(0), 0);
        due.is("count(1)", desk.count(1), 0);
        due.is("now(10)", desk.now(10), 0);
        due.is("now(12)", desk.now(12), 0);
        due.no("walk(0)", desk.walk(0));
        due.no("change(0, ..)", desk.change(0, 0, 0, 1, 0));
        due.is("explore()", desk.explore(), 1);
        due.is("fails(0)", desk.fails(0), ClaimDesk.NONE);
        due.is("avoids(0, 1)", desk.avoids(0, 1), ClaimDesk.NONE);
        due.is("count(10)", desk.count(10), ClaimDesk.NONE);
        for (int t = 0; t < 24; t++) {
            due.is("add from 0 again", desk.add(0, 0, 1, 0), t);
        }
        for (int i = 0; i < 6; i++) {
            due.is("claim from 0 again", desk.claim(1, 0, 0), i);
        }
    }

    private static void noSpace(Due due) {
        ClaimDesk desk = Desks.busy();
        desk.clear();
        NoSpace.in(due, desk);
        desk.claim(3, 0, 0);
        NoSpace.in(due, desk);
        ClaimDesk empty = new ClaimDesk();
        empty.explore();
        empty.clear();
        NoSpace.in(due, empty);
    }

    private static void firstState(Due due) {
        for (int values : new int[] {0, 0b11_10_01_00, 255}) {
            ClaimDesk desk = new ClaimDesk();
            desk.begin(values);
            for (int p = 0; p <= 2; p++) {
                desk.add(p, 0, 7, p < 2 ? Op.send(p) : Op.add(2, 1));
                desk.walk(p);
            }
            desk.clear();
            StateEdges.isFirst(due, desk, values);
            desk.clear();
            StateEdges.isFirst(due, desk, values);
            desk.explore();
            due.is("now(11)", desk.now(11), 0);
        }
    }

    private static void noSteps(Due due) {
        ClaimDesk desk = Desks.busy();
        due.is("now(13) before", desk.now(13), 2);
        desk.clear();
        due.is("now(13)", desk.now(13), 0);
        desk.add(0, 0, 0, 0);
        desk.walk(0);
        due.is("now(13) with one step", desk.now(13), 1);
    }

    private static void howMany(Due due) {
        for (int many : new int[] {0, 1, 23, 24}) {
            ClaimDesk desk = new ClaimDesk();
            for (int t = 0; t < many; t++) {
                desk.add(0, 0, 0, 0);
            }
            desk.claim(3, 0, 0);
            due.is("clear() with " + many, desk.clear(), many);
            due.is("clear() again", desk.clear(), 0);
        }
        ClaimDesk full = Desks.full();
        full.add(0, 0, 0, 0);
        full.add(3, 0, 0, 0);
        due.is("clear() after FULL and REFUSED", full.clear(), 24);
    }
}
