import java.io.IOException;

public final class P12EdgesTest {
    public static void main(String[] args) throws IOException {
        Sentences said = new Sentences("Promise 12: state");
        said.hold("Of STATE s of the SPACE what 0 to 2: the PLACE of that PROCESS;", P12EdgesTest::places);
        said.hold("3 to 6: VARIABLE what - 3;", P12EdgesTest::variables);
        said.hold("7: how many values the CHANNEL has;", P12EdgesTest::channelLength);
        said.hold("8, 9: its first and second one (NONE without);", P12EdgesTest::channelValues);
        said.hold("10: how many TRANSITIONS are OPEN in it;", P12EdgesTest::open);
        said.hold("11: how many different STATES these LEAD TO;", P12EdgesTest::different);
        said.hold("12: to which STATE the first of these LEADS (NONE without).", P12EdgesTest::firstOfThese);
        said.hold("REFUSED for another what;", P12EdgesTest::refused);
        said.hold("NONE if there is no such STATE,", P12EdgesTest::noState);
        said.hold("or no SPACE.", P12EdgesTest::noSpace);
        said.end();
    }

    private static ClaimDesk explored(ClaimDesk desk) {
        desk.explore();
        return desk;
    }

    /** From PLACE 0 to 7, each PROCESS for itself. */
    private static void places(Due due) {
        for (int p = 0; p <= 2; p++) {
            ClaimDesk desk = new ClaimDesk();
            for (int place = 0; place < 7; place++) {
                desk.add(p, place, place + 1, 0);
            }
            desk.explore();
            for (int s = 0; s <= 7; s++) {
                for (int what = 0; what <= 2; what++) {
                    due.is("state(" + s + ", " + what + ")", desk.state(s, what), what == p ? s : 0);
                }
            }
        }
    }

    private static void variables(Due due) {
        for (int v = 0; v <= 3; v++) {
            ClaimDesk desk = new ClaimDesk();
            desk.add(0, 0, 0, Op.add(v, 1));
            due.is("explore()", desk.explore(), 4);
            for (int s = 0; s <= 3; s++) {
                for (int what = 3; what <= 6; what++) {
                    due.is("state(" + s + ", " + what + ")", desk.state(s, what), what == 3 + v ? s : 0);
                }
            }
        }
    }

    /** VARIABLE 0 is sent, then 3, in STATES 0, 1 and 2; STATE 3 is the one behind a TAKE. */
    private static ClaimDesk sent() {
        ClaimDesk desk = new ClaimDesk();
        desk.begin(0b11_00_00_00);
        desk.add(0, 0, 1, Op.send(0));
        desk.add(0, 1, 2, Op.send(3));
        desk.add(0, 2, 3, Op.take(1));
        return explored(desk);
    }

    private static void channelLength(Due due) {
        ClaimDesk desk = sent();
        int[] lengths = {0, 1, 2, 1};
        for (int s = 0; s <= 3; s++) {
            due.is("state(" + s + ", 7)", desk.state(s, 7), lengths[s]);
        }
    }

    private static void channelValues(Due due) {
        ClaimDesk desk = sent();
        int[] first = {ClaimDesk.NONE, 0, 0, 3};
        int[] second = {ClaimDesk.NONE, ClaimDesk.NONE, 3, ClaimDesk.NONE};
        for (int s = 0; s <= 3; s++) {
            due.is("state(" + s + ", 8)", desk.state(s, 8), first[s]);
            due.is("state(" + s + ", 9)", desk.state(s, 9), second[s]);
        }
    }

    private static void open(Due due) {
        for (int many : new int[] {0, 1, 2, 23, 24}) {
            ClaimDesk desk = loops(many);
            due.is("state(0, 10) with " + many, desk.state(0, 10), many);
        }
        ClaimDesk chain = explored(Desks.chain(2));
        due.is("state(1, 10)", chain.state(1, 10), 1);
        due.is("state(2, 10) at the end", chain.state(2, 10), 0);
    }

    /** So many TRANSITIONS from STATE 0 to itself. */
    private static ClaimDesk loops(int many) {
        ClaimDesk desk = new ClaimDesk();
        for (int t = 0; t < many; t++) {
            desk.add(t % 3, 0, 0, 0);
        }
        return explored(desk);
    }

    private static void different(Due due) {
        for (int many : new int[] {1, 2, 24}) {
            due.is("state(0, 11) with " + many + " to itself", loops(many).state(0, 11), 1);
        }
        due.is("state(0, 11) with none", loops(0).state(0, 11), 0);
        ClaimDesk many = new ClaimDesk();
        for (int t = 0; t < 24; t++) {
            many.add(0, 0, 1 + t % 6, Op.set(t / 6, 1));
        }
        many.explore();
        due.is("state(0, 11) with 24 to 24", many.state(0, 11), 24);
        many.change(23, 0, 0, 1, Op.set(0, 1));
        many.explore();
        due.is("state(0, 11) with the last like the first", many.state(0, 11), 23);
        many.change(23, 0, 0, 5, Op.set(3, 1));
        many.explore();
        due.is("state(0, 11) with the last like that before it", many.state(0, 11), 23);
    }

    private static void firstOfThese(Due due) {
        due.is("state(0, 12) with none", loops(0).state(0, 12), ClaimDesk.NONE);
        due.is("state(0, 12) to itself", loops(1).state(0, 12), 0);
        ClaimDesk desk = new ClaimDesk();
        for (int t = 0; t < 22; t++) {
            desk.add(0, 7, 0, 0);
        }
        desk.add(0, 0, 2, 0);
        desk.add(0, 2, 1, 0);
        desk.explore();
        due.is("state(0, 12) by TRANSITION 22", desk.state(0, 12), 1);
        due.is("state(1, 12) by the last TRANSITION", desk.state(1, 12), 2);
        due.is("state(2, 12) at the end", desk.state(2, 12), ClaimDesk.NONE);
        desk.change(0, 0, 2, 0, 0);
        desk.explore();
        due.is("state(1, 12), the first of two leads back", desk.state(1, 12), 0);
        desk.change(1, 0, 0, 2, 0);
        desk.change(22, 0, 0, 0, 0);
        desk.explore();
        due.is("state(0, 12), the second of two leads to a lesser one", desk.state(0, 12), 1);
        ClaimDesk row = explored(Desks.longRow());
        due.is("state(298, 12)", row.state(298, 12), 299);
        due.is("state(299, 12)", row.state(299, 12), ClaimDesk.NONE);
    }

    private static void refused(Due due) {
        for (int what : Outside.of(0, 12)) {
            String call = "state(0, " + what + ")";
            Twins.unchanged(due, call, Desks::busy, d -> d.state(0, what), ClaimDesk.REFUSED);
            Twins.unchanged(due, call + " with no SPACE", Desks::planned, d -> d.state(0, what), ClaimDesk.REFUSED);
            due.is("state(-1, " + what + ")", Desks.busy().state(-1, what), ClaimDesk.REFUSED);
            due.is("state(5, " + what + ")", Desks.busy().state(5, what), ClaimDesk.REFUSED);
        }
        for (int what = 0; what <= 12; what++) {
            due.is("state(0, " + what + ") is not", Desks.busy().state(0, what) != ClaimDesk.REFUSED, true);
        }
    }

    private static void noState(Due due) {
        for (int what = 0; what <= 12; what++) {
            ClaimDesk chain = explored(Desks.chain(3));
            for (int s : Outside.of(0, 3)) {
                due.is("state(" + s + ", " + what + ")", chain.state(s, what), ClaimDesk.NONE);
            }
            ClaimDesk row = explored(Desks.longRow());
            due.is("state(300, " + what + ")", row.state(300, what), ClaimDesk.NONE);
            due.is("state(-1, " + what + ")", row.state(-1, what), ClaimDesk.NONE);
        }
        due.is("state(3, 0) of 4", explored(Desks.chain(3)).state(3, 0), 3);
        due.is("state(299, 0) of 300", explored(Desks.longRow()).state(299, 0), 3);
    }

    private static void noSpace(Due due) {
        none(due, "of a new one", new ClaimDesk());
        ClaimDesk desk = Desks.chain(3);
        none(due, "before explore", desk);
        desk.explore();
        desk.begin(0);
        none(due, "after begin", desk);
        desk.explore();
        desk.add(0, 7, 7, 0);
        none(due, "after add", desk);
        desk.explore();
        desk.change(3, 0, 7, 7, 0);
        none(due, "after change", desk);
        desk.explore();
        desk.clear();
        none(due, "after clear", desk);
        none(due, "where it is LARGE", explored(Desks.tooLong()));
    }

    private static void none(Due due, String when, ClaimDesk desk) {
        for (int what = 0; what <= 12; what++) {
            due.is("state(0, " + what + ") " + when, desk.state(0, what), ClaimDesk.NONE);
        }
    }
}
