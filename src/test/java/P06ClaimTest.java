public final class P06ClaimTest {
    public static void main(String[] args) {
        Due due = new Due();
        numbersAndFull(due);
        everyEdge(due);
        spaceStays(due);
        whereEachSortFails(due);
        due.end();
    }

    private static void numbersAndFull(Due due) {
        ClaimDesk desk = new ClaimDesk();
        for (int i = 0; i < 6; i++) {
            due.is("claim(0, 0, 0)", desk.claim(0, 0, 0), i);
            due.is("count(1)", desk.count(1), i + 1);
        }
        due.is("claim as the 7th", desk.claim(0, 0, 0), ClaimDesk.FULL);
        due.is("wrong claim as the 7th", desk.claim(5, 0, 0), ClaimDesk.REFUSED);
        due.is("count(1)", desk.count(1), 6);
        desk.clear();
        due.is("claim after clear", desk.claim(4, 1, 2), 0);
    }

    /** Of each SORT how many numbers a, and how many b, are as said; for SORT 3 b is free. */
    private static void everyEdge(Due due) {
        int[] endOfA = {4, 3, 3, 3, 4};
        int[] endOfB = {4, 8, 3, Integer.MAX_VALUE, 4};
        for (int sort = 0; sort < 5; sort++) {
            for (int a = -1; a <= 9; a++) {
                for (int b = -1; b <= 9; b++) {
                    boolean fits = a >= 0 && a < endOfA[sort] && (sort == 3 || b >= 0 && b < endOfB[sort])
                            && (sort != 2 || a != b);
                    ClaimDesk desk = new ClaimDesk();
                    due.is("claim(" + sort + ", " + a + ", " + b + ")", desk.claim(sort, a, b),
                            fits ? 0 : ClaimDesk.REFUSED);
                    due.is("count(1)", desk.count(1), fits ? 1 : 0);
                }
            }
        }
        ClaimDesk desk = new ClaimDesk();
        int[] wrong = {-1, 5, 6, Integer.MAX_VALUE, Integer.MIN_VALUE};
        for (int w : wrong) {
            due.is("claim(" + w + ", 0, 0)", desk.claim(w, 0, 0), ClaimDesk.REFUSED);
            due.is("claim(1, " + w + ", 0)", desk.claim(1, w, 0), ClaimDesk.REFUSED);
        }
        due.is("claim(3, 0, MAX)", desk.claim(3, 0, Integer.MAX_VALUE), 0);
        due.is("claim(3, 2, MIN)", desk.claim(3, 2, Integer.MIN_VALUE), 1);
    }

    private static void spaceStays(Due due) {
        ClaimDesk desk = Desks.chain(3);
        desk.explore();
        desk.walk(0);
        due.is("claim(1, 0, 2)", desk.claim(1, 0, 2), 0);
        due.is("count(2)", desk.count(2), 4);
        due.is("now(11)", desk.now(11), 1);
        due.is("fails(0)", desk.fails(0), 2);
        due.is("claim(9, 0, 0)", desk.claim(9, 0, 0), ClaimDesk.REFUSED);
        due.is("count(2)", desk.count(2), 4);
    }

    private static void whereEachSortFails(Due due) {
        int[][] claims = {{0, 2, 3}, {1, 1, 7}, {2, 0, 2}, {3, 1, 0}, {4, 2, 3}, {4, 1, 1}};
        boolean[] before = {false, false, true, false, false, false};
        boolean[] behind = {true, true, false, true, true, false};
        for (int i = 0; i < claims.length; i++) {
            ClaimDesk desk = new ClaimDesk();
            desk.add(0, 0, 1, Op.set(2, 3));
            desk.add(1, 0, 7, Op.send(0));
            desk.claim(claims[i][0], claims[i][1], claims[i][2]);
            due.is("before, CLAIM " + i, desk.now(12), before[i] ? 1 : 0);
            desk.walk(0);
            desk.walk(1);
            due.is("behind, CLAIM " + i, desk.now(12), behind[i] ? 1 : 0);
        }
        ClaimDesk channel = new ClaimDesk();
        channel.add(0, 0, 0, Op.send(0));
        channel.claim(3, 0, 0);
        channel.claim(3, 1, 0);
        channel.claim(3, 2, 0);
        for (int length = 0; length <= 2; length++) {
            due.is("CLAIMS with " + length + " values in the CHANNEL", channel.now(12), length + 1);
            channel.walk(0);
        }
    }
}
