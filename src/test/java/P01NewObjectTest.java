public final class P01NewObjectTest {
    public static void main(String[] args) {
        Due due = new Due();
        nothingIsThere(due, new ClaimDesk());
        objectsAreApart(due);
        due.end();
    }

    private static void nothingIsThere(Due due, ClaimDesk desk) {
        due.is("count(0)", desk.count(0), 0);
        due.is("count(1)", desk.count(1), 0);
        for (int what = 2; what <= 6; what++) {
            due.is("count(" + what + ")", desk.count(what), ClaimDesk.NONE);
        }
        for (int what = 0; what <= 7; what++) {
            due.is("now(" + what + ")", desk.now(what), 0);
        }
        due.is("now(8)", desk.now(8), ClaimDesk.NONE);
        due.is("now(9)", desk.now(9), ClaimDesk.NONE);
        due.is("now(10)", desk.now(10), 0);
        due.is("now(11)", desk.now(11), ClaimDesk.NONE);
        due.is("now(12)", desk.now(12), 0);
        due.is("now(13)", desk.now(13), 0);
        due.is("state(0, 0)", desk.state(0, 0), ClaimDesk.NONE);
        due.is("way(0, -1)", desk.way(0, -1), ClaimDesk.NONE);
        due.is("stuck(false)", desk.stuck(false), ClaimDesk.NONE);
        due.no("go(0)", desk.go(0));
        due.no("walk(0)", desk.walk(0));
        due.is("fails(0)", desk.fails(0), ClaimDesk.NONE);
        due.is("clear()", desk.clear(), 0);
        due.is("explore()", desk.explore(), 1);
        for (int what = 3; what <= 6; what++) {
            due.is("state(0, " + what + ")", desk.state(0, what), 0);
        }
    }

    private static void objectsAreApart(Due due) {
        ClaimDesk one = Desks.chain(3);
        one.begin(255);
        one.claim(0, 0, 0);
        one.explore();
        one.walk(0);
        nothingIsThere(due, new ClaimDesk());
        due.is("the other's now(0)", one.now(0), 1);
        due.is("the other's count(2)", one.count(2), 4);
    }
}
