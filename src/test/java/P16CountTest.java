public final class P16CountTest {
    public static void main(String[] args) {
        Due due = new Due();
        everyCount(due);
        stuckAndDone(due);
        oneState(due);
        smallerThanBefore(due);
        withoutSpace(due);
        wrongWhats(due);
        due.end();
    }

    private static void everyCount(Due due) {
        ClaimDesk desk = new ClaimDesk();
        desk.add(0, 0, 1, Op.PASS);
        desk.add(0, 1, 2, Op.PASS);
        desk.add(1, 0, 1, Op.PASS);
        desk.add(2, 5, 1, Op.PASS);
        desk.add(0, 0, 0, Op.PASS);
        desk.claim(0, 0, 0);
        desk.claim(0, 0, 0);
        due.is("explore()", desk.explore(), 6);
        int[] want = {5, 2, 6, 9, 3, 1, 0};
        for (int what = 0; what < want.length; what++) {
            due.is("count(" + what + ")", desk.count(what), want[what]);
        }
        int[] open = {2, 2, 3, 0, 2};
        for (int t = 0; t < open.length; t++) {
            due.is("count(" + (10 + t) + ")", desk.count(10 + t), open[t]);
        }
        for (int t = open.length; t < 24; t++) {
            due.is("count(" + (10 + t) + ") without TRANSITION", desk.count(10 + t), ClaimDesk.NONE);
        }
        ClaimDesk full = new ClaimDesk();
        for (int t = 0; t < 24; t++) {
            full.add(0, t % 2, 1, Op.PASS);
        }
        full.explore();
        due.is("count(3)", full.count(3), 24);
        due.is("count(4)", full.count(4), 1);
        due.is("count(33)", full.count(33), 1);
    }

    private static void stuckAndDone(Due due) {
        ClaimDesk desk = Desks.allToSeven();
        desk.add(0, 0, 6, Op.PASS);
        due.is("explore()", desk.explore(), 12);
        due.is("count(5)", desk.count(5), 2);
        due.is("count(6)", desk.count(6), 1);
        due.is("count(4)", desk.count(4), 3);
    }

    private static void oneState(Due due) {
        ClaimDesk desk = new ClaimDesk();
        desk.explore();
        int[] want = {0, 0, 1, 0, 0, 1, 0};
        for (int what = 0; what < want.length; what++) {
            due.is("count(" + what + ") of one STATE", desk.count(what), want[what]);
        }
    }

    private static void smallerThanBefore(Due due) {
        ClaimDesk desk = Desks.chain(7);
        desk.explore();
        due.is("count(3)", desk.count(3), 7);
        due.is("count(4)", desk.count(4), 7);
        desk.change(2, 0, 2, 0, Op.PASS);
        due.is("explore()", desk.explore(), 3);
        due.is("count(3)", desk.count(3), 3);
        due.is("count(4)", desk.count(4), 2);
        due.is("count(5)", desk.count(5), 0);
        due.is("count(14)", desk.count(14), 0);
    }

    private static void withoutSpace(Due due) {
        ClaimDesk desk = Desks.chain(2);
        desk.claim(0, 0, 0);
        due.is("count(0)", desk.count(0), 2);
        due.is("count(1)", desk.count(1), 1);
        for (int what = 2; what <= 6; what++) {
            due.is("count(" + what + ")", desk.count(what), ClaimDesk.NONE);
        }
        for (int t = 0; t < 24; t++) {
            due.is("count(" + (10 + t) + ")", desk.count(10 + t), ClaimDesk.NONE);
        }
    }

    private static void wrongWhats(Due due) {
        ClaimDesk desk = Desks.chain(2);
        int[] wrong = {-1, 7, 8, 9, 34, 35, 300, Integer.MAX_VALUE, Integer.MIN_VALUE, Integer.MIN_VALUE + 10};
        for (int what : wrong) {
            due.is("count(" + what + ")", desk.count(what), ClaimDesk.REFUSED);
        }
        desk.explore();
        for (int what : wrong) {
            due.is("count(" + what + ") with a SPACE", desk.count(what), ClaimDesk.REFUSED);
        }
    }
}
