public final class P14GoTest {
    public static void main(String[] args) {
        Due due = new Due();
        ClaimDesk desk = Desks.chain(5);
        due.no("go(0) with no SPACE", desk.go(0));
        desk.walk(0);
        desk.explore();
        for (int s = 5; s >= 0; s--) {
            due.yes("go(" + s + ")", desk.go(s));
            due.is("now(0)", desk.now(0), s);
            due.is("now(11)", desk.now(11), s);
            due.is("now(13)", desk.now(13), 1);
        }
        desk.go(3);
        int[] wrong = {-1, 6, 299, 300, Integer.MAX_VALUE, Integer.MIN_VALUE};
        for (int s : wrong) {
            due.no("go(" + s + ")", desk.go(s));
            due.is("now(0)", desk.now(0), 3);
        }
        due.yes("walk(3)", desk.walk(3));
        due.is("now(0)", desk.now(0), 4);
        due.is("now(13)", desk.now(13), 2);
        due.is("count(2)", desk.count(2), 6);
        desk.add(0, 7, 7, Op.PASS);
        due.no("go(0) when the SPACE is gone", desk.go(0));
        due.is("now(0)", desk.now(0), 4);
        due.end();
    }
}
