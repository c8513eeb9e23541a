public final class P15NowTest {
    public static void main(String[] args) {
        Due due = new Due();
        asForState(due);
        openAndFailing(due);
        steps(due);
        wrongWhats(due);
        due.end();
    }

    private static ClaimDesk withChannel() {
        ClaimDesk desk = new ClaimDesk();
        desk.begin(0b10_01_11_01);
        desk.add(0, 0, 1, Op.send(1));
        desk.add(1, 0, 2, Op.send(3));
        desk.add(2, 0, 3, Op.take(0));
        desk.add(0, 1, 0, Op.add(2, 3));
        return desk;
    }

    private static void asForState(Due due) {
        int states = withChannel().explore();
        due.yes("the SPACE is there", states > 10);
        for (int s = 0; s < states; s++) {
            ClaimDesk desk = withChannel();
            desk.explore();
            desk.go(s);
            for (int what = 0; what <= 10; what++) {
                due.is("now(" + what + ") in " + s, desk.now(what), desk.state(s, what));
            }
            due.is("now(11)", desk.now(11), s);
        }
    }

    private static void openAndFailing(Due due) {
        ClaimDesk desk = new ClaimDesk();
        desk.add(0, 0, 1, Op.PASS);
        desk.add(1, 0, 1, Op.is(0, 1));
        desk.add(2, 0, 1, Op.isNot(0, 1));
        desk.add(0, 1, 0, Op.set(0, 1));
        desk.claim(0, 0, 0);
        desk.claim(1, 0, 0);
        desk.claim(2, 0, 1);
        due.is("now(10)", desk.now(10), 2);
        due.is("now(12)", desk.now(12), 3);
        desk.walk(0);
        due.is("now(10)", desk.now(10), 2);
        due.is("now(12)", desk.now(12), 1);
        desk.walk(3);
        due.is("now(10)", desk.now(10), 2);
        due.is("now(12)", desk.now(12), 2);
        due.is("now(11) with no SPACE", desk.now(11), ClaimDesk.NONE);
        desk.explore();
        desk.change(3, 0, 1, 0, Op.PASS);
        desk.explore();
        due.is("now(11) of none of its STATES", desk.now(11), ClaimDesk.NONE);
    }

    private static void steps(Due due) {
        ClaimDesk desk = new ClaimDesk();
        desk.add(0, 0, 0, Op.PASS);
        for (int n = 1; n <= 400; n++) {
            desk.walk(0);
        }
        due.is("now(13)", desk.now(13), 400);
        desk.walk(1);
        desk.explore();
        desk.go(0);
        desk.claim(0, 0, 0);
        desk.add(0, 0, 1, Op.PASS);
        desk.change(1, 0, 0, 2, Op.PASS);
        desk.begin(-1);
        due.is("now(13) stays", desk.now(13), 400);
        desk.begin(0);
        due.is("now(13) after begin", desk.now(13), 0);
        desk.walk(0);
        due.is("now(13)", desk.now(13), 1);
        desk.clear();
        due.is("now(13) after clear", desk.now(13), 0);
    }

    private static void wrongWhats(Due due) {
        ClaimDesk desk = Desks.chain(1);
        int[] wrong = {-1, -2, 14, 15, 300, Integer.MAX_VALUE, Integer.MIN_VALUE};
        for (int what : wrong) {
            due.is("now(" + what + ")", desk.now(what), ClaimDesk.REFUSED);
        }
        desk.explore();
        for (int what : wrong) {
            due.is("now(" + what + ") with a SPACE", desk.now(what), ClaimDesk.REFUSED);
        }
    }
}
