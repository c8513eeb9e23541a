public final class P08FailsTest {
    public static void main(String[] args) {
        Due due = new Due();
        ClaimDesk desk = new ClaimDesk();
        desk.add(0, 0, 1, Op.set(1, 2));
        desk.add(0, 0, 2, Op.send(1));
        desk.add(0, 2, 3, Op.set(0, 1));
        desk.add(0, 1, 4, Op.set(1, 2));
        desk.claim(0, 1, 2);
        desk.claim(1, 0, 4);
        desk.claim(2, 1, 2);
        desk.claim(3, 1, 0);
        desk.claim(4, 0, 1);
        for (int i = 0; i < 5; i++) {
            due.is("fails(" + i + ") with no SPACE", desk.fails(i), ClaimDesk.NONE);
        }
        due.is("explore()", desk.explore(), 5);
        due.is("fails(0)", desk.fails(0), 1);
        due.is("fails(1)", desk.fails(1), 3);
        due.is("fails(2)", desk.fails(2), 0);
        due.is("fails(3)", desk.fails(3), 2);
        due.is("fails(4)", desk.fails(4), 4);
        due.is("claim(1, 2, 5)", desk.claim(1, 2, 5), 5);
        due.is("fails(5), which never does", desk.fails(5), ClaimDesk.NONE);
        int[] wrong = {-1, 6, 7, Integer.MAX_VALUE, Integer.MIN_VALUE};
        for (int i : wrong) {
            due.is("fails(" + i + ")", desk.fails(i), ClaimDesk.NONE);
        }
        desk.go(4);
        due.is("fails(0) from elsewhere", desk.fails(0), 1);
        ClaimDesk none = Desks.chain(2);
        none.explore();
        due.is("fails(0) with no CLAIM", none.fails(0), ClaimDesk.NONE);
        due.end();
    }
}
