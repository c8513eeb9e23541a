/** Terms, second part: TRANSITIONS, where they are OPEN and to what they LEAD. */
final class TransitionEdges {
    private static final int ALL_DIFFERENT = 0b11_10_01_00;

    private TransitionEdges() {
    }

    static void numbers(Due due) {
        ClaimDesk desk = new ClaimDesk();
        for (int t = 0; t < 24; t++) {
            due.no("change(" + t + ") before it is there", desk.change(t, 0, 0, 0, Op.PASS));
            due.is("add", desk.add(0, t == 23 ? 0 : 1, 2, Op.PASS), t);
            due.is("count(0)", desk.count(0), t + 1);
        }
        due.is("the 25th add", desk.add(0, 0, 2, Op.PASS), ClaimDesk.FULL);
        due.is("count(0)", desk.count(0), 24);
        due.no("walk(24)", desk.walk(24));
        due.no("walk(22)", desk.walk(22));
        due.yes("walk(23)", desk.walk(23));
        due.yes("change(23)", desk.change(23, 0, 2, 3, Op.PASS));
        due.no("change(24)", desk.change(24, 0, 2, 3, Op.PASS));
        due.no("change(-1)", desk.change(-1, 0, 2, 3, Op.PASS));
        due.no("walk(-1)", desk.walk(-1));
        desk.clear();
        due.is("the first add after clear", desk.add(0, 0, 1, Op.PASS), 0);
    }

    /** The first and the last op of each KIND. VARIABLES begin with 1, 0, 0, 2. */
    static void kindsAndNumbers(Due due) {
        led(due, 0, 1, 2, 0);
        led(due, 15, 1, 2, 0);
        shut(due, 16);
        shut(due, 31);
        led(due, 32, 1, 2, 0);
        led(due, 47, 1, 2, 0);
        led(due, 48, 0, 2, 0);
        led(due, 63, 1, 3, 0);
        led(due, 64, 1, 2, 0);
        led(due, 79, 1, 1, 0);
        led(due, 80, 1, 2, 0);
        led(due, 95, 1, 2, 0);
        led(due, 96, 1, 2, 1);
        led(due, 111, 1, 2, 1);
        shut(due, 112);
        shut(due, 127);
        for (int op : Outside.of(0, 127)) {
            due.is("add of op " + op, new ClaimDesk().add(0, 0, 0, op), ClaimDesk.REFUSED);
            due.no("change to op " + op, Desks.chain(1).change(0, 0, 0, 0, op));
        }
    }

    private static ClaimDesk withOp(int op) {
        ClaimDesk desk = new ClaimDesk();
        desk.begin(0b10_00_00_01);
        desk.add(0, 0, 0, op);
        return desk;
    }

    private static void led(Due due, int op, int variable0, int variable3, int channel) {
        ClaimDesk desk = withOp(op);
        due.yes("walk by op " + op, desk.walk(0));
        due.is("VARIABLE 0 by op " + op, desk.now(3), variable0);
        due.is("VARIABLE 3 by op " + op, desk.now(6), variable3);
        due.is("VARIABLE 1 by op " + op, desk.now(4), 0);
        due.is("VARIABLE 2 by op " + op, desk.now(5), 0);
        due.is("CHANNEL by op " + op, desk.now(7), channel);
    }

    private static void shut(Due due, int op) {
        due.no("walk by op " + op, withOp(op).walk(0));
    }

    static void placeFrom(Due due) {
        for (int p = 0; p <= 2; p++) {
            for (int at = 0; at <= 7; at++) {
                ClaimDesk desk = new ClaimDesk();
                desk.add(p, 0, at, Op.PASS);
                desk.walk(0);
                desk.change(0, p, 0, 0, Op.PASS);
                for (int from = 1; from <= 7; from++) {
                    desk.add(p, from, from, Op.PASS);
                }
                due.is("OPEN ones at " + at, desk.now(10), 1);
                for (int from = 0; from <= 7; from++) {
                    due.is("walk from " + from + " at " + at, desk.walk(from), from == at);
                }
            }
        }
    }

    static void isOpen(Due due) {
        everyValue(due, 1);
    }

    static void isNotOpen(Due due) {
        everyValue(due, 2);
    }

    private static void everyValue(Due due, int kind) {
        for (int a = 0; a <= 3; a++) {
            for (int value = 0; value <= 3; value++) {
                ClaimDesk desk = new ClaimDesk();
                // The other VARIABLES have another value, so that a wrong one is seen.
                desk.begin(((value + 1) % 4) * 0b01_01_01_01);
                desk.add(0, 0, 1, Op.set(a, value));
                desk.walk(0);
                for (int b = 0; b <= 3; b++) {
                    int t = desk.add(0, 1, 1, Op.of(kind, a, b));
                    due.is("VARIABLE " + a + " " + value + ", KIND " + kind + " " + b, desk.walk(t),
                            (value == b) == (kind == 1));
                    due.is("VARIABLE " + a + " behind it", desk.now(3 + a), value);
                }
                due.is("OPEN ones", desk.now(10), kind == 1 ? 1 : 3);
            }
        }
    }

    static void passIsOpen(Due due) {
        alwaysOpen(due, 0);
    }

    static void setAddCopyAreOpen(Due due) {
        alwaysOpen(due, 3);
        alwaysOpen(due, 4);
        alwaysOpen(due, 5);
    }

    /** For each a and b, with the VARIABLES all 0, all different and all 3, the CHANNEL empty to full. */
    private static void alwaysOpen(Due due, int kind) {
        for (int values : new int[] {0, ALL_DIFFERENT, 255}) {
            for (int numbers = 0; numbers < 16; numbers++) {
                for (int length = 0; length <= 2; length++) {
                    ClaimDesk desk = withChannel(values, length);
                    int t = desk.add(0, 0, 1, kind * 16 + numbers);
                    due.yes("KIND " + kind + " " + numbers + " of " + values + ", " + length, desk.walk(t));
                    due.is("now(7)", desk.now(7), length);
                }
            }
        }
    }

    private static ClaimDesk withChannel(int values, int length) {
        ClaimDesk desk = new ClaimDesk();
        desk.begin(values);
        desk.add(0, 0, 0, Op.send(0));
        for (int i = 0; i < length; i++) {
            desk.walk(0);
        }
        return desk;
    }

    static void sendIsOpen(Due due) {
        for (int a = 0; a <= 3; a++) {
            for (int length = 0; length <= 2; length++) {
                ClaimDesk desk = withChannel(0, length);
                int t = desk.add(1, 0, 1, Op.send(a));
                due.is("OPEN with " + length + " values", desk.now(10), length < 2 ? 2 : 0);
                due.is("SEND with " + length + " values", desk.walk(t), length < 2);
                due.is("now(7)", desk.now(7), length < 2 ? length + 1 : 2);
                due.is("now(1)", desk.now(1), length < 2 ? 1 : 0);
            }
        }
    }

    static void takeIsOpen(Due due) {
        for (int a = 0; a <= 3; a++) {
            for (int length = 0; length <= 2; length++) {
                ClaimDesk desk = withChannel(0, length);
                int t = desk.add(1, 0, 1, Op.take(a));
                due.is("TAKE with " + length + " values", desk.walk(t), length > 0);
                due.is("now(7)", desk.now(7), length > 0 ? length - 1 : 0);
                due.is("now(1)", desk.now(1), length > 0 ? 1 : 0);
            }
        }
    }

    static void placeTo(Due due) {
        for (int p = 0; p <= 2; p++) {
            for (int from = 0; from <= 7; from++) {
                for (int to = 0; to <= 7; to++) {
                    ClaimDesk desk = new ClaimDesk();
                    desk.add(p, 0, from, Op.PASS);
                    desk.add(p, from, to, Op.PASS);
                    desk.walk(0);
                    due.yes("walk from " + from + " to " + to, desk.walk(1));
                    for (int other = 0; other <= 2; other++) {
                        due.is("PLACE of " + other, desk.now(other), other == p ? to : 0);
                    }
                }
            }
        }
    }

    static void set(Due due) {
        everyEffect(due, 3);
    }

    static void addWrapsAround(Due due) {
        everyEffect(due, 4);
        ClaimDesk desk = new ClaimDesk();
        desk.add(0, 0, 0, Op.add(2, 1));
        for (int i = 1; i <= 9; i++) {
            desk.walk(0);
            due.is("VARIABLE 2 with " + i + " times 1", desk.now(5), i % 4);
            due.is("VARIABLE 3, next to it", desk.now(6), 0);
        }
        due.is("the greatest sum, 3 and 3", effect(4, 0b11_11_11_11, 1, 3).now(4), 2);
        due.is("the least sum that wraps, 3 and 1", effect(4, 0b11_11_11_11, 1, 1).now(4), 0);
        due.is("the greatest sum that does not, 3 and 0", effect(4, 0b11_11_11_11, 1, 0).now(4), 3);
    }

    static void copy(Due due) {
        everyEffect(due, 5);
        due.is("COPY of the VARIABLE itself", effect(5, 0b11_10_01_00, 3, 3).now(6), 3);
    }

    private static ClaimDesk effect(int kind, int values, int a, int b) {
        ClaimDesk desk = new ClaimDesk();
        desk.begin(values);
        desk.add(0, 0, 0, Op.of(kind, a, b));
        desk.walk(0);
        return desk;
    }

    /** VARIABLE k begins with k, in the next round with k + 1, and so on. */
    private static void everyEffect(Due due, int kind) {
        for (int more = 0; more < 4; more++) {
            for (int numbers = 0; numbers < 16; numbers++) {
                int a = numbers / 4;
                int b = numbers % 4;
                int values = 0;
                for (int v = 3; v >= 0; v--) {
                    values = values * 4 + (v + more) % 4;
                }
                ClaimDesk desk = effect(kind, values, a, b);
                int[] want = {b, (a + more + b) % 4, (b + more) % 4};
                for (int v = 0; v < 4; v++) {
                    due.is("VARIABLE " + v + " by KIND " + kind + " " + a + " " + b, desk.now(3 + v),
                            v == a ? want[kind - 3] : (v + more) % 4);
                }
                due.is("now(7)", desk.now(7), 0);
            }
        }
    }

    static void send(Due due) {
        for (int a = 0; a <= 3; a++) {
            for (int then = 0; then <= 3; then++) {
                ClaimDesk desk = effect(6, ALL_DIFFERENT, a, 3 - a);
                due.is("the one value, first and last", desk.now(8), a);
                due.is("no second one", desk.now(9), ClaimDesk.NONE);
                int t = desk.add(0, 0, 0, Op.send(then));
                desk.walk(t);
                due.is("the first one still", desk.now(8), a);
                due.is("the last one", desk.now(9), then);
                StateEdges.isFirst(due, withoutChannel(desk), ALL_DIFFERENT);
            }
        }
    }

    /** Takes what is in the CHANNEL, into a VARIABLE that is set again behind it. */
    private static ClaimDesk withoutChannel(ClaimDesk desk) {
        int take = desk.add(0, 0, 0, Op.take(3));
        int set = desk.add(0, 0, 0, Op.set(3, 3));
        desk.walk(take);
        desk.walk(take);
        desk.walk(set);
        return desk;
    }

    static void take(Due due) {
        for (int a = 0; a <= 3; a++) {
            ClaimDesk desk = new ClaimDesk();
            desk.begin(ALL_DIFFERENT);
            desk.add(0, 0, 0, Op.send(3));
            desk.add(0, 0, 0, Op.send(1));
            int take = desk.add(0, 0, 0, Op.take(a));
            desk.walk(0);
            desk.walk(1);
            due.yes("TAKE of two", desk.walk(take));
            due.is("VARIABLE " + a, desk.now(3 + a), 3);
            due.is("how many are left", desk.now(7), 1);
            due.is("the second one is the first now", desk.now(8), 1);
            due.is("there is no second one", desk.now(9), ClaimDesk.NONE);
            due.yes("TAKE of one", desk.walk(take));
            due.is("VARIABLE " + a, desk.now(3 + a), 1);
            due.is("the CHANNEL is empty", desk.now(7), 0);
            due.is("there is no first one", desk.now(8), ClaimDesk.NONE);
            due.no("TAKE of none", desk.walk(take));
            due.is("VARIABLE " + a + " stays", desk.now(3 + a), 1);
            for (int v = 0; v <= 3; v++) {
                due.is("VARIABLE " + v, desk.now(3 + v), v == a ? 1 : v);
            }
        }
    }
}
