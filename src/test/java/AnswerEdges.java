import java.util.function.Supplier;
import java.util.function.ToIntFunction;

/** Terms, last part: the STATE NOW, what a call that answers a constant changes, and the constants. */
final class AnswerEdges {
    private AnswerEdges() {
    }

    static void stateNowAtTheBeginning(Due due) {
        StateEdges.isFirst(due, new ClaimDesk(), 0);
        ClaimDesk desk = new ClaimDesk();
        desk.explore();
        due.is("now(11)", desk.now(11), 0);
    }

    static void walkWithAndWithoutSpace(Due due) {
        ClaimDesk desk = Desks.chain(5);
        due.yes("walk with no SPACE yet", desk.walk(0));
        desk.explore();
        due.yes("walk with a SPACE", desk.walk(1));
        due.is("now(11)", desk.now(11), 2);
        desk.add(0, 7, 7, Op.PASS);
        due.yes("walk with no SPACE any more", desk.walk(2));
        desk.change(0, 0, 0, 7, Op.PASS);
        desk.explore();
        due.is("now(11) outside the SPACE", desk.now(11), ClaimDesk.NONE);
        due.yes("walk outside the SPACE", desk.walk(3));
        due.is("now(0)", desk.now(0), 4);
        due.is("now(13)", desk.now(13), 4);
        ClaimDesk large = Desks.tooLong();
        large.explore();
        due.yes("walk where the SPACE is LARGE", large.walk(large.count(0) - 6));
    }

    static void refusedChangesNothing(Due due) {
        refused(due, "add(3, 0, 1, 0)", d -> d.add(3, 0, 1, 0));
        refused(due, "add(0, 8, 1, 0)", d -> d.add(0, 8, 1, 0));
        refused(due, "add(0, 0, 8, 0)", d -> d.add(0, 0, 8, 0));
        refused(due, "add(0, 0, 1, 128)", d -> d.add(0, 0, 1, 128));
        refused(due, "claim(5, 0, 0)", d -> d.claim(5, 0, 0));
        refused(due, "claim(0, 4, 0)", d -> d.claim(0, 4, 0));
        refused(due, "claim(0, 0, 4)", d -> d.claim(0, 0, 4));
        refused(due, "claim(2, 1, 1)", d -> d.claim(2, 1, 1));
        refused(due, "avoids(0, -1)", d -> d.avoids(0, -1));
        refused(due, "avoids(0, 2)", d -> d.avoids(0, 2));
        refused(due, "state(0, -1)", d -> d.state(0, -1));
        refused(due, "state(0, 13)", d -> d.state(0, 13));
        refused(due, "now(-1)", d -> d.now(-1));
        refused(due, "now(14)", d -> d.now(14));
        refused(due, "count(-1)", d -> d.count(-1));
        refused(due, "count(7)", d -> d.count(7));
        refused(due, "count(9)", d -> d.count(9));
        refused(due, "count(34)", d -> d.count(34));
    }

    private static void refused(Due due, String call, ToIntFunction<ClaimDesk> calling) {
        Twins.unchanged(due, call, Desks::busy, calling, ClaimDesk.REFUSED);
        Twins.unchanged(due, call + " on a full one", Desks::full, calling, ClaimDesk.REFUSED);
        Twins.unchanged(due, call + " with no SPACE", Desks::planned, calling, ClaimDesk.REFUSED);
    }

    static void fullChangesNothing(Due due) {
        Twins.unchanged(due, "the 25th add", Desks::full, d -> d.add(2, 0, 1, Op.PASS), ClaimDesk.FULL);
        Twins.unchanged(due, "the 7th claim", Desks::full, d -> d.claim(1, 2, 0), ClaimDesk.FULL);
    }

    static void noneChangesNothing(Due due) {
        none(due, "fails(5)", Desks::busy, d -> d.fails(5));
        none(due, "stuck(false)", Desks::busy, d -> d.stuck(false));
        none(due, "stuck(true)", Desks::busy, d -> d.stuck(true));
        none(due, "avoids(0, 0)", Desks::busy, d -> d.avoids(0, 0));
        none(due, "avoids(5, 1)", Desks::busy, d -> d.avoids(5, 1));
        none(due, "way(5, -1)", Desks::busy, d -> d.way(5, -1));
        none(due, "way(0, 0)", Desks::busy, d -> d.way(0, 0));
        none(due, "way(1, -2)", Desks::busy, d -> d.way(1, -2));
        none(due, "state(5, 0)", Desks::busy, d -> d.state(5, 0));
        none(due, "state(0, 8)", Desks::busy, d -> d.state(0, 8));
        none(due, "now(9)", Desks::busy, d -> d.now(9));
        none(due, "count(13)", Desks::busy, d -> d.count(13));
        none(due, "fails(0) with no SPACE", Desks::planned, d -> d.fails(0));
        none(due, "stuck(false) with no SPACE", Desks::planned, d -> d.stuck(false));
        none(due, "avoids(0, 1) with no SPACE", Desks::planned, d -> d.avoids(0, 1));
        none(due, "way(0, -1) with no SPACE", Desks::planned, d -> d.way(0, -1));
        none(due, "state(0, 0) with no SPACE", Desks::planned, d -> d.state(0, 0));
        none(due, "now(11) with no SPACE", Desks::planned, d -> d.now(11));
        none(due, "count(2) with no SPACE", Desks::planned, d -> d.count(2));
        none(due, "count(10) with no SPACE", Desks::planned, d -> d.count(10));
    }

    private static void none(Due due, String call, Supplier<ClaimDesk> made, ToIntFunction<ClaimDesk> calling) {
        Twins.unchanged(due, call, made, calling, ClaimDesk.NONE);
    }

    /** There was no SPACE before: what makes a SPACE LARGE has ended the one that was there. */
    static void largeChangesNothing(Due due) {
        Twins.unchanged(due, "explore()", AnswerEdges::largeAndWalked, ClaimDesk::explore, ClaimDesk.LARGE);
    }

    private static ClaimDesk largeAndWalked() {
        ClaimDesk desk = Desks.tooLong();
        desk.claim(1, 0, 0);
        desk.claim(3, 0, 0);
        desk.walk(6);
        desk.walk(7);
        return desk;
    }

    static void allChangeNothing(Due due) {
        refusedChangesNothing(due);
        fullChangesNothing(due);
        noneChangesNothing(due);
        largeChangesNothing(due);
    }

    /** Each call is one that would answer FULL or NONE, were its numbers as said. */
    static void refusedComesFirst(Due due) {
        ClaimDesk full = Desks.full();
        due.is("add(3, ..) with 24", full.add(3, 0, 1, 0), ClaimDesk.REFUSED);
        due.is("add(-1, ..) with 24", full.add(-1, 0, 1, 0), ClaimDesk.REFUSED);
        due.is("add of from 8 with 24", full.add(0, 8, 1, 0), ClaimDesk.REFUSED);
        due.is("add of to -1 with 24", full.add(0, 0, -1, 0), ClaimDesk.REFUSED);
        due.is("add of op 128 with 24", full.add(0, 0, 1, 128), ClaimDesk.REFUSED);
        due.is("claim(5, ..) with 6", full.claim(5, 0, 0), ClaimDesk.REFUSED);
        due.is("claim(-1, ..) with 6", full.claim(-1, 0, 0), ClaimDesk.REFUSED);
        due.is("claim(1, 3, 0) with 6", full.claim(1, 3, 0), ClaimDesk.REFUSED);
        due.is("claim(1, 0, 8) with 6", full.claim(1, 0, 8), ClaimDesk.REFUSED);
        due.is("claim(2, 0, 0) with 6", full.claim(2, 0, 0), ClaimDesk.REFUSED);
        ClaimDesk empty = new ClaimDesk();
        refusedWhats(due, empty);
        empty.explore();
        refusedWhats(due, empty);
    }

    private static void refusedWhats(Due due, ClaimDesk desk) {
        for (int what : Outside.of(0, 1)) {
            due.is("avoids(0, " + what + ") with no CLAIM", desk.avoids(0, what), ClaimDesk.REFUSED);
        }
        for (int what : Outside.of(0, 12)) {
            due.is("state(1, " + what + ") with no such STATE", desk.state(1, what), ClaimDesk.REFUSED);
        }
        for (int what : Outside.of(0, 33)) {
            due.is("count(" + what + ")", desk.count(what), ClaimDesk.REFUSED);
        }
        for (int what = 7; what <= 9; what++) {
            due.is("count(" + what + ")", desk.count(what), ClaimDesk.REFUSED);
        }
    }

    static void refusedIs(Due due) {
        due.is("REFUSED", ClaimDesk.REFUSED, -1);
        due.is("add(3, 0, 0, 0)", new ClaimDesk().add(3, 0, 0, 0), -1);
        due.is("now(14)", new ClaimDesk().now(14), -1);
    }

    static void noneIs(Due due) {
        due.is("NONE", ClaimDesk.NONE, -2);
        due.is("count(2)", new ClaimDesk().count(2), -2);
        due.is("now(8)", new ClaimDesk().now(8), -2);
    }

    static void fullIs(Due due) {
        due.is("FULL", ClaimDesk.FULL, -3);
        due.is("the 25th add", Desks.full().add(0, 0, 0, 0), -3);
        due.is("the 7th claim", Desks.full().claim(0, 0, 0), -3);
    }

    static void largeIs(Due due) {
        due.is("LARGE", ClaimDesk.LARGE, -4);
        due.is("explore()", Desks.tooLong().explore(), -4);
    }
}
