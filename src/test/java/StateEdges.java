/** Terms, first part: of what a STATE is made, and the FIRST one. */
final class StateEdges {
    private StateEdges() {
    }

    static void processes(Due due) {
        for (int p = 0; p <= 2; p++) {
            ClaimDesk desk = new ClaimDesk();
            due.is("add of PROCESS " + p, desk.add(p, 0, 1, Op.PASS), 0);
            due.yes("change to PROCESS " + p, desk.change(0, p, 0, 1, Op.PASS));
            due.is("claim(1, " + p + ", 0)", desk.claim(1, p, 0), 0);
            due.is("claim(2, " + p + ", ..)", desk.claim(2, p, (p + 1) % 3), 1);
            due.is("claim(2, .., " + p + ")", desk.claim(2, (p + 1) % 3, p), 2);
            due.yes("walk(0)", desk.walk(0));
            for (int other = 0; other <= 2; other++) {
                due.is("PLACE of PROCESS " + other, desk.now(other), other == p ? 1 : 0);
            }
        }
        for (int p : Outside.of(0, 2)) {
            ClaimDesk desk = Desks.chain(1);
            due.is("add of PROCESS " + p, desk.add(p, 0, 1, Op.PASS), ClaimDesk.REFUSED);
            due.no("change to PROCESS " + p, desk.change(0, p, 0, 1, Op.PASS));
            due.is("claim(1, " + p + ", 0)", desk.claim(1, p, 0), ClaimDesk.REFUSED);
            due.is("claim(2, " + p + ", 0)", desk.claim(2, p, 0), ClaimDesk.REFUSED);
            due.is("claim(2, 0, " + p + ")", desk.claim(2, 0, p), ClaimDesk.REFUSED);
        }
    }

    static void places(Due due) {
        for (int place = 0; place <= 7; place++) {
            ClaimDesk desk = new ClaimDesk();
            due.is("add to PLACE " + place, desk.add(1, 0, place, Op.PASS), 0);
            due.is("add from PLACE " + place, desk.add(1, place, 0, Op.PASS), 1);
            due.yes("change to PLACE " + place, desk.change(0, 1, 0, place, Op.PASS));
            due.yes("change from PLACE " + place, desk.change(1, 1, place, 0, Op.PASS));
            due.is("claim(1, 1, " + place + ")", desk.claim(1, 1, place), 0);
            due.yes("walk there", desk.walk(0));
            due.is("PLACE of PROCESS 1", desk.now(1), place);
            due.yes("walk back", desk.walk(1));
            due.is("PLACE of PROCESS 1", desk.now(1), 0);
        }
        for (int place : Outside.of(0, 7)) {
            ClaimDesk desk = Desks.chain(1);
            due.is("add to PLACE " + place, desk.add(1, 0, place, Op.PASS), ClaimDesk.REFUSED);
            due.is("add from PLACE " + place, desk.add(1, place, 0, Op.PASS), ClaimDesk.REFUSED);
            due.no("change to PLACE " + place, desk.change(0, 1, 0, place, Op.PASS));
            due.no("change from PLACE " + place, desk.change(0, 1, place, 0, Op.PASS));
            due.is("claim(1, 1, " + place + ")", desk.claim(1, 1, place), ClaimDesk.REFUSED);
        }
    }

    static void variables(Due due) {
        for (int v = 0; v <= 3; v++) {
            for (int value = 0; value <= 3; value++) {
                ClaimDesk desk = new ClaimDesk();
                due.is("claim(0, " + v + ", " + value + ")", desk.claim(0, v, value), 0);
                due.is("claim(4, " + v + ", " + value + ")", desk.claim(4, v, value), 1);
                desk.add(0, 0, 0, Op.set(v, value));
                desk.walk(0);
                for (int other = 0; other <= 3; other++) {
                    due.is("VARIABLE " + other, desk.now(3 + other), other == v ? value : 0);
                }
            }
        }
        for (int wrong : Outside.of(0, 3)) {
            ClaimDesk desk = new ClaimDesk();
            due.is("claim(0, " + wrong + ", 0)", desk.claim(0, wrong, 0), ClaimDesk.REFUSED);
            due.is("claim(0, 0, " + wrong + ")", desk.claim(0, 0, wrong), ClaimDesk.REFUSED);
            due.is("claim(4, " + wrong + ", 0)", desk.claim(4, wrong, 0), ClaimDesk.REFUSED);
            due.is("claim(4, 0, " + wrong + ")", desk.claim(4, 0, wrong), ClaimDesk.REFUSED);
        }
    }

    static void channel(Due due) {
        for (int first = 0; first <= 3; first++) {
            for (int second = 0; second <= 3; second++) {
                ClaimDesk desk = new ClaimDesk();
                desk.begin(first + 4 * second);
                desk.add(0, 0, 0, Op.send(0));
                desk.add(0, 0, 0, Op.send(1));
                channelIs(due, desk, 0, ClaimDesk.NONE, ClaimDesk.NONE);
                due.yes("the first SEND", desk.walk(0));
                channelIs(due, desk, 1, first, ClaimDesk.NONE);
                due.yes("the second SEND", desk.walk(1));
                channelIs(due, desk, 2, first, second);
                due.no("the third SEND", desk.walk(0));
                channelIs(due, desk, 2, first, second);
            }
        }
    }

    private static void channelIs(Due due, ClaimDesk desk, int length, int first, int second) {
        due.is("now(7)", desk.now(7), length);
        due.is("now(8)", desk.now(8), first);
        due.is("now(9)", desk.now(9), second);
    }

    /** One TRANSITION that changes one part alone: a STATE more; and one without effect: none more. */
    static void partsOfAState(Due due) {
        for (int p = 0; p <= 2; p++) {
            statesBy(due, "PLACE of " + p, p, 1, Op.PASS, 2);
            statesBy(due, "no other PLACE of " + p, p, 0, Op.PASS, 1);
        }
        for (int v = 0; v <= 3; v++) {
            statesBy(due, "VARIABLE " + v, 0, 0, Op.set(v, 3), 2);
            statesBy(due, "the same VARIABLE " + v, 0, 0, Op.set(v, 0), 1);
            statesBy(due, "CHANNEL of zeros", 0, 0, Op.send(v), 3);
        }
        ClaimDesk order = new ClaimDesk();
        order.begin(0b01_00);
        order.add(0, 0, 0, Op.send(0));
        order.add(0, 0, 0, Op.send(1));
        due.is("CHANNELS of 0 and 1 in each order", order.explore(), 7);
        order.add(0, 0, 0, Op.take(3));
        order.add(0, 0, 0, Op.set(3, 0));
        due.is("a CHANNEL that was used is no other one", order.explore(), 14);
    }

    private static void statesBy(Due due, String part, int process, int to, int op, int states) {
        ClaimDesk desk = new ClaimDesk();
        desk.add(process, 0, to, op);
        due.is("STATES by " + part, desk.explore(), states);
    }

    static void firstState(Due due) {
        for (int values : new int[] {0, 0b11_10_01_00, 255}) {
            ClaimDesk desk = new ClaimDesk();
            for (int p = 0; p <= 2; p++) {
                desk.add(p, 0, 7, Op.send(p));
            }
            desk.add(0, 7, 7, Op.add(3, 1));
            desk.begin(values);
            isFirst(due, desk, values);
            desk.walk(0);
            desk.walk(3);
            desk.explore();
            for (int what = 0; what <= 9; what++) {
                due.is("state(0, " + what + ")", desk.state(0, what), ofFirst(values, what));
            }
            desk.go(0);
            isFirst(due, desk, values);
            desk.walk(1);
            desk.walk(2);
            desk.begin(values);
            isFirst(due, desk, values);
            desk.walk(2);
            desk.clear();
            isFirst(due, desk, values);
        }
    }

    static void isFirst(Due due, ClaimDesk desk, int values) {
        for (int what = 0; what <= 9; what++) {
            due.is("now(" + what + ") of " + values, desk.now(what), ofFirst(values, what));
        }
    }

    private static int ofFirst(int values, int what) {
        if (what >= 8) {
            return ClaimDesk.NONE;
        }
        int[] powers = {1, 4, 16, 64};
        return what >= 3 && what <= 6 ? values / powers[what - 3] % 4 : 0;
    }
}
