public final class P13WalkTest {
    public static void main(String[] args) {
        Due due = new Due();
        conditions(due);
        effects(due);
        channel(due);
        noneSuch(due);
        outOfTheSpace(due);
        due.end();
    }

    private static void conditions(Due due) {
        for (int a = 0; a < 4; a++) {
            for (int b = 0; b < 4; b++) {
                ClaimDesk desk = new ClaimDesk();
                desk.begin(0b11_10_01_00);
                desk.add(0, 0, 0, Op.is(a, b));
                desk.add(0, 0, 0, Op.isNot(a, b));
                desk.add(1, 1, 0, Op.is(a, a));
                due.is("IS " + a + " " + b, desk.walk(0), a == b);
                due.is("IS NOT " + a + " " + b, desk.walk(1), a != b);
                due.no("IS at another PLACE", desk.walk(2));
                due.is("now(13)", desk.now(13), 1);
            }
        }
    }

    private static void effects(Due due) {
        for (int a = 0; a < 4; a++) {
            for (int b = 0; b < 4; b++) {
                ClaimDesk desk = new ClaimDesk();
                int[] kinds = {Op.PASS + 15, Op.is(a, a), Op.isNot(a, (a + 1) % 4), Op.set(a, b),
                    Op.add(a, b), Op.copy(a, b)};
                int[] want = {a, a, a, b, (a + b) % 4, b};
                for (int kind = 0; kind < kinds.length; kind++) {
                    desk.clear();
                    desk.begin(0b11_10_01_00);
                    desk.add(1, 0, 6, kinds[kind]);
                    due.yes("KIND " + kind + " " + a + " " + b, desk.walk(0));
                    for (int v = 0; v < 4; v++) {
                        due.is("VARIABLE " + v, desk.now(3 + v), v == a ? want[kind] : v);
                    }
                    due.is("now(0)", desk.now(0), 0);
                    due.is("now(1)", desk.now(1), 6);
                    due.is("now(2)", desk.now(2), 0);
                    due.is("now(7)", desk.now(7), 0);
                }
            }
        }
    }

    private static void channel(Due due) {
        ClaimDesk desk = new ClaimDesk();
        desk.begin(0b11_10_01_00);
        for (int v = 0; v < 4; v++) {
            desk.add(0, 0, 0, Op.send(v));
        }
        for (int v = 0; v < 4; v++) {
            desk.add(1, 0, 0, Op.take(v));
        }
        due.no("TAKE of nothing", desk.walk(4));
        due.yes("SEND 3", desk.walk(3));
        due.yes("SEND 1", desk.walk(1));
        due.no("SEND to a full CHANNEL", desk.walk(2));
        due.is("now(7)", desk.now(7), 2);
        due.is("now(8)", desk.now(8), 3);
        due.is("now(9)", desk.now(9), 1);
        due.is("now(6) is still there", desk.now(6), 3);
        due.yes("TAKE to 0", desk.walk(4));
        due.is("now(3)", desk.now(3), 3);
        due.is("now(7)", desk.now(7), 1);
        due.is("now(8)", desk.now(8), 1);
        due.is("now(9)", desk.now(9), ClaimDesk.NONE);
        due.yes("SEND 2", desk.walk(2));
        due.is("now(8)", desk.now(8), 1);
        due.is("now(9)", desk.now(9), 2);
        due.yes("TAKE to 3", desk.walk(7));
        due.yes("TAKE to 1", desk.walk(5));
        due.is("now(6)", desk.now(6), 1);
        due.is("now(4)", desk.now(4), 2);
        due.is("now(7)", desk.now(7), 0);
        due.is("now(8)", desk.now(8), ClaimDesk.NONE);
        due.no("TAKE of nothing", desk.walk(6));
        due.is("now(13)", desk.now(13), 6);
    }

    private static void noneSuch(Due due) {
        ClaimDesk desk = Desks.chain(2);
        int[] wrong = {-1, 2, 23, 24, Integer.MAX_VALUE, Integer.MIN_VALUE};
        for (int t : wrong) {
            due.no("walk(" + t + ")", desk.walk(t));
        }
        due.no("walk(1), which is not OPEN", desk.walk(1));
        due.is("now(0)", desk.now(0), 0);
        due.is("now(13)", desk.now(13), 0);
        desk.clear();
        due.no("walk(0) after clear", desk.walk(0));
    }

    /** A STATE NOW that a change has cut off is walked on from all the same. */
    private static void outOfTheSpace(Due due) {
        ClaimDesk desk = Desks.chain(3);
        desk.walk(0);
        desk.explore();
        desk.change(0, 1, 0, 1, Op.PASS);
        desk.explore();
        due.is("now(11)", desk.now(11), ClaimDesk.NONE);
        due.yes("walk(1)", desk.walk(1));
        due.is("now(0)", desk.now(0), 2);
        due.is("count(2)", desk.count(2), 2);
    }
}
