import java.io.IOException;

public final class P16EdgesTest {
    public static void main(String[] args) throws IOException {
        Sentences said = new Sentences("Promise 16: count");
        said.hold("What 0: TRANSITIONS,", P16EdgesTest::transitions);
        said.hold("1: CLAIMS;", P16EdgesTest::claims);
        said.hold("2: STATES of the SPACE (NONE without one);", P16EdgesTest::states);
        said.hold("3: how many pairs of a STATE and a TRANSITION that is OPEN in it there are (NONE likewise);",
                P16EdgesTest::pairs);
        said.hold("4: the greatest number of TRANSITIONS of a WAY (NONE);", P16EdgesTest::longestWay);
        said.hold("5: STUCK STATES (NONE),", P16EdgesTest::stuck);
        said.hold("6: DONE ones (NONE);", P16EdgesTest::done);
        said.hold("10 + t: in how many STATES of the SPACE TRANSITION t (0 to 23) is OPEN",
                P16EdgesTest::whereOpen);
        said.hold("(NONE without a SPACE, or such a TRANSITION).", P16EdgesTest::noneOpen);
        said.hold("REFUSED for others.", P16EdgesTest::refused);
        said.end();
    }

    private static ClaimDesk explored(ClaimDesk desk) {
        desk.explore();
        return desk;
    }

    private static void transitions(Due due) {
        ClaimDesk desk = new ClaimDesk();
        for (int t = 0; t < 24; t++) {
            due.is("count(0)", desk.count(0), t);
            desk.add(0, 0, 0, 0);
        }
        due.is("count(0) of 24", desk.count(0), 24);
        desk.add(0, 0, 0, 0);
        desk.add(0, 0, 0, -1);
        desk.change(0, 0, 0, 1, 0);
        due.is("count(0) of 24 still", desk.count(0), 24);
        desk.clear();
        due.is("count(0) after clear", desk.count(0), 0);
    }

    private static void claims(Due due) {
        ClaimDesk desk = new ClaimDesk();
        for (int i = 0; i < 6; i++) {
            due.is("count(1)", desk.count(1), i);
            desk.claim(3, 0, 0);
        }
        due.is("count(1) of 6", desk.count(1), 6);
        desk.claim(3, 0, 0);
        desk.claim(3, 3, 0);
        due.is("count(1) of 6 still", desk.count(1), 6);
        desk.begin(0);
        due.is("count(1) after begin", desk.count(1), 6);
        desk.clear();
        due.is("count(1) after clear", desk.count(1), 0);
    }

    /** That this count is NONE whenever there is no SPACE, and is not when there is one. */
    private static void noneWithoutSpace(Due due, int what) {
        due.is("count(" + what + ") of a new one", new ClaimDesk().count(what), ClaimDesk.NONE);
        ClaimDesk desk = Desks.planned();
        due.is("count(" + what + ") before explore", desk.count(what), ClaimDesk.NONE);
        desk.explore();
        due.yes("count(" + what + ") with a SPACE", desk.count(what) >= 0);
        desk.add(2, 7, 7, 0);
        due.is("count(" + what + ") after add", desk.count(what), ClaimDesk.NONE);
        desk.explore();
        desk.change(3, 2, 7, 7, 0);
        due.is("count(" + what + ") after change", desk.count(what), ClaimDesk.NONE);
        desk.explore();
        desk.begin(0);
        due.is("count(" + what + ") after begin", desk.count(what), ClaimDesk.NONE);
        desk.explore();
        desk.clear();
        due.is("count(" + what + ") after clear", desk.count(what), ClaimDesk.NONE);
        due.is("count(" + what + ") where it is LARGE", explored(Desks.tooLong()).count(what), ClaimDesk.NONE);
    }

    private static void states(Due due) {
        due.is("count(2) of the least", explored(new ClaimDesk()).count(2), 1);
        due.is("count(2) of the greatest", explored(Desks.longRow()).count(2), 300);
        noneWithoutSpace(due, 2);
    }

    /** All 24 are OPEN in each of 256 STATES: each adds 1, 2 or 3 to a VARIABLE, and stays at PLACE 0. */
    private static ClaimDesk allOpen() {
        ClaimDesk desk = new ClaimDesk();
        for (int t = 0; t < 24; t++) {
            desk.add(t % 3, 0, 0, Op.add(t / 6, 1 + t % 3));
        }
        return explored(desk);
    }

    private static void pairs(Due due) {
        due.is("count(3) of the least", explored(new ClaimDesk()).count(3), 0);
        due.is("count(3) of a chain", explored(Desks.chain(7)).count(3), 7);
        due.is("count(3) of a row", explored(Desks.longRow()).count(3), 299);
        due.is("count(2) of all OPEN", allOpen().count(2), 256);
        due.is("count(3) of all OPEN", allOpen().count(3), 256 * 24);
        ClaimDesk same = new ClaimDesk();
        same.add(0, 0, 0, 0);
        same.add(0, 0, 0, 0);
        due.is("count(3) of two that lead to the same", explored(same).count(3), 2);
        noneWithoutSpace(due, 3);
    }

    private static void longestWay(Due due) {
        due.is("count(4) of the least", explored(new ClaimDesk()).count(4), 0);
        due.is("count(4) of two", explored(Desks.chain(1)).count(4), 1);
        due.is("count(4) of a row", explored(Desks.longRow()).count(4), 299);
        ClaimDesk cut = Desks.chain(7);
        cut.add(0, 0, 6, Op.PASS);
        due.is("count(4) with a shorter way", explored(cut).count(4), 5);
        cut.clear();
        due.is("count(4) of the least after a longer one", explored(cut).count(4), 0);
        noneWithoutSpace(due, 4);
    }

    private static void stuck(Due due) {
        due.is("count(5) of the only STATE", explored(new ClaimDesk()).count(5), 1);
        due.is("count(5) of a round", explored(Desks.threeHundred()).count(5), 0);
        due.is("count(5) of a row", explored(Desks.longRow()).count(5), 1);
        due.is("count(5) of DONE ones too", explored(Desks.allToSeven()).count(5), 1);
        ClaimDesk many = new ClaimDesk();
        for (int t = 0; t < 24; t++) {
            many.add(0, 0, 1 + t % 6, Op.set(t / 6, 1));
        }
        due.is("count(5) of 24 ends", explored(many).count(5), 24);
        noneWithoutSpace(due, 5);
    }

    private static void done(Due due) {
        due.is("count(6) of the only STATE", explored(new ClaimDesk()).count(6), 0);
        ClaimDesk desk = Desks.allToSeven();
        due.is("count(6) of one", explored(desk).count(6), 1);
        desk.add(0, 0, 7, Op.set(0, 1));
        desk.add(0, 0, 6, Op.set(0, 1));
        due.is("count(6) of two, and one that is not", explored(desk).count(6), 2);
        due.is("count(5) of these", desk.count(5), 3);
        desk.add(1, 7, 7, Op.is(0, 0));
        due.is("count(6) if one can still go on", explored(desk).count(6), 1);
        noneWithoutSpace(due, 6);
    }

    private static void whereOpen(Due due) {
        ClaimDesk all = allOpen();
        for (int t = 0; t <= 23; t++) {
            due.is("count(" + (10 + t) + ") of all OPEN", all.count(10 + t), 256);
        }
        ClaimDesk chain = Desks.chain(2);
        chain.add(0, 7, 0, Op.PASS);
        chain.add(1, 0, 0, Op.PASS);
        chain.explore();
        int[] open = {1, 1, 0, 3};
        for (int t = 0; t < 4; t++) {
            due.is("count(" + (10 + t) + ")", chain.count(10 + t), open[t]);
        }
    }

    private static void noneOpen(Due due) {
        noneWithoutSpace(due, 10);
        for (int many : new int[] {0, 1, 23, 24}) {
            ClaimDesk desk = new ClaimDesk();
            for (int t = 0; t < many; t++) {
                desk.add(0, 0, 0, 0);
            }
            for (int t = 0; t <= 23; t++) {
                due.is("count(" + (10 + t) + ") with no SPACE", desk.count(10 + t), ClaimDesk.NONE);
            }
            desk.explore();
            for (int t = 0; t <= 23; t++) {
                due.is("count(" + (10 + t) + ") of " + many, desk.count(10 + t), t < many ? 1 : ClaimDesk.NONE);
            }
        }
    }

    private static void refused(Due due) {
        for (int what : Outside.of(0, 33)) {
            refusedOne(due, what);
        }
        for (int what = 7; what <= 9; what++) {
            refusedOne(due, what);
        }
        for (int what = 0; what <= 33; what++) {
            boolean isOne = what >= 7 && what <= 9;
            due.is("count(" + what + ") is REFUSED", new ClaimDesk().count(what) == ClaimDesk.REFUSED, isOne);
        }
    }

    private static void refusedOne(Due due, int what) {
        String call = "count(" + what + ")";
        Twins.unchanged(due, call, Desks::busy, d -> d.count(what), ClaimDesk.REFUSED);
        Twins.unchanged(due, call + " of a full one", Desks::full, d -> d.count(what), ClaimDesk.REFUSED);
        Twins.unchanged(due, call + " with no SPACE", Desks::planned, d -> d.count(what), ClaimDesk.REFUSED);
    }
}
