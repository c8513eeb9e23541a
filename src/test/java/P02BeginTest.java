public final class P02BeginTest {
    public static void main(String[] args) {
        Due due = new Due();
        digitsAreTheVariables(due);
        beginsAnew(due);
        wrongValuesChangeNothing(due);
        due.end();
    }

    private static void digitsAreTheVariables(Due due) {
        for (int values = 0; values < 256; values++) {
            ClaimDesk desk = new ClaimDesk();
            due.yes("begin(" + values + ")", desk.begin(values));
            int rest = values;
            for (int v = 0; v < 4; v++) {
                due.is("VARIABLE " + v + " of " + values, desk.now(3 + v), rest % 4);
                rest /= 4;
            }
        }
    }

    private static void beginsAnew(Due due) {
        ClaimDesk desk = new ClaimDesk();
        desk.add(0, 0, 1, Op.set(0, 3));
        desk.add(1, 0, 1, Op.send(0));
        desk.claim(0, 0, 1);
        desk.explore();
        desk.walk(0);
        desk.walk(1);
        due.is("now(7)", desk.now(7), 1);
        due.is("now(13)", desk.now(13), 2);
        due.yes("begin(1)", desk.begin(1));
        due.is("now(0)", desk.now(0), 0);
        due.is("now(1)", desk.now(1), 0);
        due.is("now(3)", desk.now(3), 1);
        due.is("now(7)", desk.now(7), 0);
        due.is("now(13)", desk.now(13), 0);
        due.is("count(2)", desk.count(2), ClaimDesk.NONE);
        due.is("now(11)", desk.now(11), ClaimDesk.NONE);
        due.no("go(0)", desk.go(0));
        due.is("count(0)", desk.count(0), 2);
        due.is("count(1)", desk.count(1), 1);
        due.is("explore()", desk.explore(), 5);
        due.is("state(0, 3)", desk.state(0, 3), 1);
        due.is("fails(0)", desk.fails(0), 0);
        due.yes("begin(1) again", desk.begin(1));
        due.is("count(2) after the same begin", desk.count(2), ClaimDesk.NONE);
    }

    private static void wrongValuesChangeNothing(Due due) {
        ClaimDesk desk = Desks.chain(2);
        desk.begin(27);
        desk.explore();
        desk.walk(0);
        int[] wrong = {-1, 256, 257, 1000, Integer.MIN_VALUE, Integer.MAX_VALUE};
        for (int values : wrong) {
            due.no("begin(" + values + ")", desk.begin(values));
            due.is("now(0)", desk.now(0), 1);
            due.is("now(3)", desk.now(3), 3);
            due.is("now(13)", desk.now(13), 1);
            due.is("count(2)", desk.count(2), 3);
        }
        desk.clear();
        due.is("now(3) after clear", desk.now(3), 3);
    }
}
