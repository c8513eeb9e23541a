import java.io.IOException;

public final class P08EdgesTest {
    public static void main(String[] args) throws IOException {
        Sentences said = new Sentences("Promise 8: fails");
        said.hold("The least STATE of the SPACE in which CLAIM i FAILS;", P08EdgesTest::least);
        said.hold("NONE if there is none,", P08EdgesTest::noState);
        said.hold("no such CLAIM,", P08EdgesTest::noClaim);
        said.hold("or no SPACE.", P08EdgesTest::noSpace);
        said.end();
    }

    /** In all STATES, in several, in the last of 300 alone. */
    private static void least(Due due) {
        ClaimDesk row = Desks.longRow();
        due.is("claim", row.claim(3, 0, 0), 0);
        due.is("claim", row.claim(0, 3, 3), 1);
        due.is("claim", row.claim(0, 3, 0), 2);
        row.explore();
        due.is("fails in all", row.fails(0), 0);
        int several = row.fails(1);
        due.is("VARIABLE 3 where it fails first", row.state(several, 6), 3);
        due.is("VARIABLE 3 one STATE before", row.state(several - 1, 6), 2);
        due.is("fails in the last one", row.fails(2), 299);
        row.go(299);
        due.is("fails in all, from elsewhere", row.fails(0), 0);
    }

    private static void noState(Due due) {
        ClaimDesk desk = Desks.chain(3);
        desk.claim(1, 0, 3);
        desk.claim(1, 0, 4);
        desk.claim(3, 1, 0);
        desk.claim(4, 2, 2);
        desk.explore();
        due.is("fails at the last PLACE", desk.fails(0), 3);
        due.is("fails at the PLACE behind it", desk.fails(1), ClaimDesk.NONE);
        due.is("fails with a value in the CHANNEL", desk.fails(2), ClaimDesk.NONE);
        due.is("fails if VARIABLE 2 is greater than itself", desk.fails(3), ClaimDesk.NONE);
        desk.walk(0);
        desk.change(0, 0, 2, 3, 0);
        desk.claim(1, 0, 1);
        desk.explore();
        due.is("fails in a STATE NOW outside the SPACE", desk.fails(4), ClaimDesk.NONE);
        due.is("though it FAILS there", desk.now(12), 1);
    }

    /** The SPACE has 5 STATES, in all of which the CLAIMS that are there FAIL. */
    private static void noClaim(Due due) {
        for (int claims = 0; claims <= 6; claims++) {
            ClaimDesk desk = Desks.chain(4);
            for (int i = 0; i < claims; i++) {
                desk.claim(3, 0, 0);
            }
            desk.explore();
            for (int i = 0; i <= 7; i++) {
                due.is("fails(" + i + ") of " + claims, desk.fails(i), i < claims ? 0 : ClaimDesk.NONE);
            }
            for (int i : Outside.of(0, 5)) {
                due.is("fails(" + i + ") of " + claims, desk.fails(i), ClaimDesk.NONE);
            }
        }
        ClaimDesk cleared = Desks.busy();
        cleared.clear();
        cleared.explore();
        due.is("fails(0) after clear", cleared.fails(0), ClaimDesk.NONE);
    }

    private static void noSpace(Due due) {
        ClaimDesk desk = Desks.planned();
        due.is("fails(3) before explore", desk.fails(3), ClaimDesk.NONE);
        desk.explore();
        due.is("fails(3)", desk.fails(3), 1);
        desk.begin(0);
        due.is("fails(3) after begin", desk.fails(3), ClaimDesk.NONE);
        desk.explore();
        desk.add(2, 7, 7, 0);
        due.is("fails(3) after add", desk.fails(3), ClaimDesk.NONE);
        desk.explore();
        desk.change(0, 0, 0, 1, Op.send(1));
        due.is("fails(3) after change", desk.fails(3), ClaimDesk.NONE);
        ClaimDesk large = Desks.tooLong();
        large.claim(3, 0, 0);
        large.explore();
        due.is("fails(0) where it is LARGE", large.fails(0), ClaimDesk.NONE);
    }
}
