import java.io.IOException;

public final class P14EdgesTest {
    public static void main(String[] args) throws IOException {
        Sentences said = new Sentences("Promise 14: go");
        said.hold("The STATE NOW is STATE s of the SPACE: true;", P14EdgesTest::goes);
        said.hold("false if there is none such.", P14EdgesTest::noneSuch);
        said.end();
    }

    /** The first and the last STATE, of 1 and of 300; no step is walked by it. */
    private static void goes(Due due) {
        ClaimDesk one = new ClaimDesk();
        one.explore();
        due.yes("go(0) of 1", one.go(0));
        due.is("now(11)", one.now(11), 0);
        ClaimDesk row = Desks.longRow();
        row.explore();
        for (int s : new int[] {299, 0, 298, 1, 299, 299}) {
            due.yes("go(" + s + ") of 300", row.go(s));
            due.is("now(11)", row.now(11), s);
            for (int what = 0; what <= 10; what++) {
                due.is("now(" + what + ")", row.now(what), row.state(s, what));
            }
            due.is("now(13)", row.now(13), 0);
        }
        ClaimDesk desk = Desks.busy();
        due.yes("go(0)", desk.go(0));
        due.is("now(13) stays", desk.now(13), 2);
        due.is("now(7)", desk.now(7), 0);
        due.yes("go(1)", desk.go(1));
        due.is("now(8)", desk.now(8), 2);
        due.is("count(2) stays", desk.count(2), 5);
    }

    private static void noneSuch(Due due) {
        for (int s : Outside.of(0, 4)) {
            Twins.unchanged(due, "go(" + s + ") of 5", Desks::busy, d -> Twins.told(d.go(s)), 0);
        }
        ClaimDesk row = Desks.longRow();
        row.explore();
        row.go(7);
        due.no("go(300) of 300", row.go(300));
        due.no("go(-1) of 300", row.go(-1));
        due.is("now(11)", row.now(11), 7);
        row.clear();
        row.explore();
        due.no("go(1) of 1", row.go(1));
        Twins.unchanged(due, "go(0) with no SPACE", Desks::planned, d -> Twins.told(d.go(0)), 0);
        Twins.unchanged(due, "go(0) after add", P14EdgesTest::withoutSpaceAnyMore, d -> Twins.told(d.go(0)), 0);
        ClaimDesk large = Desks.tooLong();
        large.explore();
        due.no("go(0) where it is LARGE", large.go(0));
    }

    private static ClaimDesk withoutSpaceAnyMore() {
        ClaimDesk desk = Desks.busy();
        desk.add(2, 7, 7, 0);
        return desk;
    }
}
