public final class P05ClearTest {
    public static void main(String[] args) {
        Due due = new Due();
        ClaimDesk desk = Desks.chain(4);
        desk.begin(0b11_10_01_00);
        desk.claim(0, 0, 0);
        desk.claim(1, 0, 1);
        desk.add(1, 0, 1, Op.send(3));
        desk.explore();
        desk.walk(0);
        desk.walk(4);
        due.is("clear()", desk.clear(), 5);
        due.is("count(0)", desk.count(0), 0);
        due.is("count(1)", desk.count(1), 0);
        due.is("count(2)", desk.count(2), ClaimDesk.NONE);
        due.is("now(0)", desk.now(0), 0);
        due.is("now(1)", desk.now(1), 0);
        for (int v = 0; v < 4; v++) {
            due.is("VARIABLE " + v, desk.now(3 + v), v);
        }
        due.is("now(7)", desk.now(7), 0);
        due.is("now(10)", desk.now(10), 0);
        due.is("now(11)", desk.now(11), ClaimDesk.NONE);
        due.is("now(12)", desk.now(12), 0);
        due.is("now(13)", desk.now(13), 0);
        due.no("walk(0)", desk.walk(0));
        due.is("fails(0)", desk.fails(0), ClaimDesk.NONE);
        due.is("explore()", desk.explore(), 1);
        due.is("state(0, 10)", desk.state(0, 10), 0);
        due.is("fails(0) with a SPACE", desk.fails(0), ClaimDesk.NONE);
        due.is("clear() again", desk.clear(), 0);
        due.is("count(2)", desk.count(2), ClaimDesk.NONE);
        due.is("add", desk.add(0, 0, 1, Op.PASS), 0);
        due.is("claim", desk.claim(0, 0, 1), 0);
        due.end();
    }
}
