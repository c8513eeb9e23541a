import java.io.IOException;

public final class P06EdgesTest {
    public static void main(String[] args) throws IOException {
        Sentences said = new Sentences("Promise 6: claim");
        said.hold("A CLAIM: its number.", P06EdgesTest::numbers);
        said.hold("REFUSED if a number is not as said;", P06EdgesTest::refused);
        said.hold("FULL if there are 6.", P06EdgesTest::full);
        said.hold("(The SPACE stays.)", P06EdgesTest::spaceStays);
        said.end();
    }

    private static void numbers(Due due) {
        ClaimDesk desk = new ClaimDesk();
        int[][] claims = {{0, 3, 3}, {1, 2, 7}, {2, 2, 1}, {3, 2, -1}, {4, 3, 3}, {0, 0, 0}};
        for (int i = 0; i < 6; i++) {
            due.is("a refused one takes no number", desk.claim(5, 0, 0), ClaimDesk.REFUSED);
            due.is("claim", desk.claim(claims[i][0], claims[i][1], claims[i][2]), i);
            due.is("count(1)", desk.count(1), i + 1);
        }
    }

    private static void refused(Due due) {
        int[][] next = {
            {-1, 0, 0}, {5, 0, 0}, {0, -1, 0}, {0, 4, 0}, {0, 0, -1}, {0, 0, 4}, {1, -1, 0}, {1, 3, 0}, {1, 0, -1},
            {1, 0, 8}, {2, -1, 0}, {2, 3, 0}, {2, 0, -1}, {2, 0, 3}, {2, 0, 0}, {2, 1, 1}, {2, 2, 2}, {3, -1, 0},
            {3, 3, 0}, {4, -1, 0}, {4, 4, 0}, {4, 0, -1}, {4, 0, 4},
        };
        for (int[] c : next) {
            unchanged(due, c[0], c[1], c[2]);
        }
        for (int sort = 0; sort <= 4; sort++) {
            unchanged(due, sort, Integer.MIN_VALUE, 0);
            unchanged(due, sort, Integer.MAX_VALUE, 0);
        }
        unchanged(due, Integer.MIN_VALUE, 0, 0);
        unchanged(due, Integer.MAX_VALUE, 0, 0);
    }

    private static void unchanged(Due due, int sort, int a, int b) {
        String call = "claim(" + sort + ", " + a + ", " + b + ")";
        Twins.unchanged(due, call, Desks::busy, d -> d.claim(sort, a, b), ClaimDesk.REFUSED);
        Twins.unchanged(due, call + " with 6", Desks::full, d -> d.claim(sort, a, b), ClaimDesk.REFUSED);
    }

    private static void full(Due due) {
        ClaimDesk desk = Desks.busy();
        due.is("claim with 5", desk.claim(1, 0, 0), 5);
        due.is("claim with 6", desk.claim(1, 0, 0), ClaimDesk.FULL);
        due.is("claim with 6 again", desk.claim(3, 2, 0), ClaimDesk.FULL);
        due.is("count(1)", desk.count(1), 6);
        Twins.unchanged(due, "claim with 6", Desks::full, d -> d.claim(0, 3, 3), ClaimDesk.FULL);
    }

    private static void spaceStays(Due due) {
        ClaimDesk desk = Desks.busy();
        due.is("the last claim", desk.claim(1, 2, 0), 5);
        due.is("count(2)", desk.count(2), 5);
        due.is("fails(5)", desk.fails(5), 0);
        due.is("now(11)", desk.now(11), 3);
        due.is("now(13)", desk.now(13), 2);
        due.yes("go(4)", desk.go(4));
        desk.claim(1, 2, 0);
        due.is("count(2) after FULL", desk.count(2), 5);
        desk.claim(7, 2, 0);
        due.is("count(2) after REFUSED", desk.count(2), 5);
        ClaimDesk none = Desks.chain(2);
        none.claim(1, 2, 0);
        due.is("count(2) if there was none", none.count(2), ClaimDesk.NONE);
    }
}
