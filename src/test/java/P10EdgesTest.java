import java.io.IOException;

public final class P10EdgesTest {
    public static void main(String[] args) throws IOException {
        Sentences said = new Sentences("Promise 10: avoids");
        said.hold("STATES from which one can go on for ever,", P10EdgesTest::forEver);
        said.hold("or to a STATE that is STUCK,", P10EdgesTest::toStuck);
        said.hold("with CLAIM i not FAILING in any STATE on the way, this one and the last one included:",
                P10EdgesTest::notFailing);
        said.hold("the least one of the SPACE;", P10EdgesTest::least);
        said.hold("with what 1: how many there are.", P10EdgesTest::howMany);
        said.hold("NONE for what 0 if there is none;", P10EdgesTest::noState);
        said.hold("NONE if there is no such CLAIM,", P10EdgesTest::noClaim);
        said.hold("or no SPACE;", P10EdgesTest::noSpace);
        said.hold("REFUSED for another what.", P10EdgesTest::refused);
        said.end();
    }

    private static void both(Due due, String of, ClaimDesk desk, int least, int howMany) {
        due.is("avoids(0, 0) " + of, desk.avoids(0, 0), least);
        due.is("avoids(0, 1) " + of, desk.avoids(0, 1), howMany);
    }

    private static ClaimDesk claimed(ClaimDesk desk, int place) {
        desk.claim(1, 0, place);
        desk.explore();
        return desk;
    }

    /** The shortest round is a STATE that leads to itself, the longest one here has 8 STATES. */
    private static void forEver(Due due) {
        for (int places = 1; places <= 8; places++) {
            ClaimDesk round = new ClaimDesk();
            Desks.addRound(round, 0, places);
            round.claim(1, 1, 1);
            round.explore();
            both(due, "round " + places + " PLACES", round, 0, places);
        }
        for (int stays = 0; stays <= 6; stays++) {
            ClaimDesk chain = Desks.chain(7);
            chain.add(0, stays, stays, Op.PASS);
            both(due, "of a chain that can stay at " + stays, claimed(chain, 7), 0, stays + 1);
        }
        ClaimDesk behind = Desks.chain(4);
        behind.add(0, 4, 3, Op.PASS);
        both(due, "with the round at the end", claimed(behind, 2), 3, 2);
        both(due, "of many rounds", claimed(Desks.threeHundred(), 4), 0, 240);
    }

    private static void toStuck(Due due) {
        both(due, "of the only STATE, which is STUCK", claimed(new ClaimDesk(), 1), 0, 1);
        ClaimDesk fork = new ClaimDesk();
        fork.add(0, 0, 1, Op.PASS);
        fork.add(0, 1, 2, Op.PASS);
        fork.add(0, 1, 3, Op.PASS);
        both(due, "of a fork with one end kept", claimed(fork, 2), 0, 3);
        ClaimDesk done = Desks.allToSeven();
        done.claim(0, 0, 1);
        done.explore();
        both(due, "with a DONE end", done, 0, 8);
    }

    /** The row is one way: what FAILS at its end is avoided nowhere, what FAILS before it, behind that. */
    private static void notFailing(Due due) {
        both(due, "if the last one FAILS", claimed(Desks.chain(7), 7), ClaimDesk.NONE, 0);
        both(due, "if the one before the last FAILS", claimed(Desks.chain(7), 6), 7, 1);
        both(due, "if the first one FAILS", claimed(Desks.chain(7), 0), 1, 7);
        both(due, "if none FAILS", claimed(Desks.chain(6), 7), 0, 7);
        both(due, "if the only one FAILS", claimed(new ClaimDesk(), 0), ClaimDesk.NONE, 0);
        ClaimDesk row = Desks.longRow();
        row.claim(0, 3, 0);
        row.explore();
        both(due, "if the last of 300 in a row FAILS", row, ClaimDesk.NONE, 0);
        ClaimDesk round = new ClaimDesk();
        Desks.addRound(round, 0, 3);
        both(due, "if one FAILS in a round that is the only way", claimed(round, 1), ClaimDesk.NONE, 0);
        ClaimDesk itself = new ClaimDesk();
        itself.add(0, 0, 0, Op.PASS);
        both(due, "if the STATE that leads to itself FAILS", claimed(itself, 0), ClaimDesk.NONE, 0);
    }

    private static void least(Due due) {
        for (int failing = 0; failing <= 6; failing++) {
            due.is("avoids(0, 0), FAILING at " + failing, claimed(Desks.chain(7), failing).avoids(0, 0), failing + 1);
        }
        ClaimDesk row = Desks.longRow();
        row.claim(0, 3, 3);
        row.claim(3, 1, 0);
        row.explore();
        due.is("avoids(0, 0) of the last of 300 alone", row.avoids(0, 0), 299);
        due.is("avoids(0, 1) of the last of 300 alone", row.avoids(0, 1), 1);
        due.is("avoids(1, 0) of all", row.avoids(1, 0), 0);
        due.is("avoids(1, 1) of all", row.avoids(1, 1), 300);
    }

    private static void howMany(Due due) {
        for (int failing = 0; failing <= 7; failing++) {
            due.is("avoids(0, 1), FAILING at " + failing, claimed(Desks.chain(7), failing).avoids(0, 1), 7 - failing);
        }
        due.is("avoids(0, 1) of all 300", claimed(Desks.threeHundred(), 7).avoids(0, 1), 300);
        ClaimDesk none = Desks.threeHundred();
        none.claim(3, 0, 0);
        none.explore();
        due.is("avoids(0, 1) of none of 300", none.avoids(0, 1), 0);
    }

    private static void noState(Due due) {
        ClaimDesk desk = Desks.chain(3);
        desk.claim(3, 0, 0);
        desk.claim(1, 0, 3);
        desk.claim(1, 0, 2);
        desk.explore();
        due.is("avoids(0, 0)", desk.avoids(0, 0), ClaimDesk.NONE);
        due.is("avoids(0, 1)", desk.avoids(0, 1), 0);
        due.is("avoids(1, 0)", desk.avoids(1, 0), ClaimDesk.NONE);
        due.is("avoids(1, 1)", desk.avoids(1, 1), 0);
        due.is("avoids(2, 0)", desk.avoids(2, 0), 3);
        due.is("avoids(2, 1)", desk.avoids(2, 1), 1);
    }

    private static void noClaim(Due due) {
        for (int claims = 0; claims <= 6; claims++) {
            ClaimDesk desk = Desks.chain(2);
            for (int i = 0; i < claims; i++) {
                desk.claim(3, 1, 0);
            }
            desk.explore();
            for (int i = 0; i <= 7; i++) {
                due.is("avoids(" + i + ", 0) of " + claims, desk.avoids(i, 0), i < claims ? 0 : ClaimDesk.NONE);
                due.is("avoids(" + i + ", 1) of " + claims, desk.avoids(i, 1), i < claims ? 3 : ClaimDesk.NONE);
            }
            for (int i : Outside.of(0, 5)) {
                due.is("avoids(" + i + ", 0)", desk.avoids(i, 0), ClaimDesk.NONE);
                due.is("avoids(" + i + ", 1)", desk.avoids(i, 1), ClaimDesk.NONE);
            }
        }
    }

    private static void noSpace(Due due) {
        ClaimDesk desk = Desks.chain(2);
        desk.claim(3, 1, 0);
        both(due, "before explore", desk, ClaimDesk.NONE, ClaimDesk.NONE);
        desk.explore();
        both(due, "with a SPACE", desk, 0, 3);
        desk.begin(0);
        both(due, "after begin", desk, ClaimDesk.NONE, ClaimDesk.NONE);
        desk.explore();
        desk.add(0, 7, 7, 0);
        both(due, "after add", desk, ClaimDesk.NONE, ClaimDesk.NONE);
        desk.explore();
        desk.change(0, 0, 0, 1, 0);
        both(due, "after change", desk, ClaimDesk.NONE, ClaimDesk.NONE);
        ClaimDesk large = Desks.tooLong();
        large.claim(3, 1, 0);
        large.explore();
        both(due, "where it is LARGE", large, ClaimDesk.NONE, ClaimDesk.NONE);
    }

    private static void refused(Due due) {
        for (int what : Outside.of(0, 1)) {
            String call = "avoids(0, " + what + ")";
            Twins.unchanged(due, call, Desks::busy, d -> d.avoids(0, what), ClaimDesk.REFUSED);
            Twins.unchanged(due, call + " with no SPACE", Desks::planned, d -> d.avoids(0, what), ClaimDesk.REFUSED);
            due.is(call + " with no CLAIM", new ClaimDesk().avoids(0, what), ClaimDesk.REFUSED);
            due.is("avoids(-1, " + what + ")", Desks.busy().avoids(-1, what), ClaimDesk.REFUSED);
            due.is("avoids(6, " + what + ")", Desks.busy().avoids(6, what), ClaimDesk.REFUSED);
        }
    }
}
