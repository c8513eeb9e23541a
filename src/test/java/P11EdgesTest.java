import java.io.IOException;

public final class P11EdgesTest {
    public static void main(String[] args) throws IOException {
        Sentences said = new Sentences("Promise 11: way");
        said.hold("TRANSITION k (0 the first) of the WAY of STATE s;", P11EdgesTest::steps);
        said.hold("with k = -1 how many it has.", P11EdgesTest::howMany);
        said.hold("NONE if there is none such,", P11EdgesTest::noneSuch);
        said.hold("or no SPACE.", P11EdgesTest::noSpace);
        said.end();
    }

    private static ClaimDesk explored(ClaimDesk desk) {
        desk.explore();
        return desk;
    }

    private static void steps(Due due) {
        ClaimDesk chain = explored(Desks.chain(7));
        for (int s = 0; s <= 7; s++) {
            for (int k = 0; k < s; k++) {
                due.is("way(" + s + ", " + k + ")", chain.way(s, k), k);
            }
        }
        ClaimDesk row = explored(Desks.longRow());
        due.is("the first step of 299", row.way(299, 0), 6);
        due.is("the second step of 299", row.way(299, 1), 7);
        due.is("the last step of 299", row.way(299, 298), 9);
        due.is("the last step but one", row.way(299, 297), 8);
        ClaimDesk last = new ClaimDesk();
        for (int t = 0; t < 23; t++) {
            last.add(0, 0, 0, 0);
        }
        last.add(0, 0, 1, 0);
        last.explore();
        due.is("a step by the last TRANSITION", last.way(1, 0), 23);
    }

    private static void howMany(Due due) {
        ClaimDesk row = explored(Desks.longRow());
        for (int s : new int[] {0, 1, 2, 150, 298, 299}) {
            due.is("way(" + s + ", -1)", row.way(s, -1), s);
        }
        due.is("way(0, -1) of the only one", explored(new ClaimDesk()).way(0, -1), 0);
    }

    private static void noneSuch(Due due) {
        ClaimDesk chain = explored(Desks.chain(3));
        for (int s = 0; s <= 3; s++) {
            due.is("way(" + s + ", " + s + ")", chain.way(s, s), ClaimDesk.NONE);
            due.is("way(" + s + ", -2)", chain.way(s, -2), ClaimDesk.NONE);
        }
        for (int k : new int[] {-2, -3, 3, 4, 299, 300, Integer.MIN_VALUE, Integer.MAX_VALUE}) {
            due.is("way(3, " + k + ")", chain.way(3, k), ClaimDesk.NONE);
        }
        for (int s : Outside.of(0, 3)) {
            due.is("way(" + s + ", -1)", chain.way(s, -1), ClaimDesk.NONE);
            due.is("way(" + s + ", 0)", chain.way(s, 0), ClaimDesk.NONE);
        }
        ClaimDesk row = explored(Desks.longRow());
        due.is("way(299, 299)", row.way(299, 299), ClaimDesk.NONE);
        due.is("way(300, -1)", row.way(300, -1), ClaimDesk.NONE);
        due.is("way(300, 0)", row.way(300, 0), ClaimDesk.NONE);
        row.clear();
        row.explore();
        due.is("way(1, -1) of a smaller SPACE", row.way(1, -1), ClaimDesk.NONE);
    }

    private static void noSpace(Due due) {
        none(due, "of a new one", new ClaimDesk());
        ClaimDesk desk = Desks.chain(3);
        none(due, "before explore", desk);
        desk.explore();
        desk.begin(0);
        none(due, "after begin", desk);
        desk.explore();
        desk.add(0, 7, 7, 0);
        none(due, "after add", desk);
        desk.explore();
        desk.change(3, 0, 7, 7, 0);
        none(due, "after change", desk);
        desk.explore();
        due.is("way(3, 0)", desk.way(3, 0), 0);
        desk.clear();
        none(due, "after clear", desk);
        none(due, "where it is LARGE", explored(Desks.tooLong()));
    }

    private static void none(Due due, String when, ClaimDesk desk) {
        due.is("way(0, -1) " + when, desk.way(0, -1), ClaimDesk.NONE);
        due.is("way(1, 0) " + when, desk.way(1, 0), ClaimDesk.NONE);
    }
}
