/** Terms, fourth part: CLAIMS, their numbers, and where they FAIL. */
final class ClaimEdges {
    private ClaimEdges() {
    }

    static void numbers(Due due) {
        ClaimDesk desk = new ClaimDesk();
        desk.explore();
        for (int i = 0; i < 6; i++) {
            due.is("fails(" + i + ") before it is there", desk.fails(i), ClaimDesk.NONE);
            due.is("claim", desk.claim(1, 0, 0), i);
            due.is("count(1)", desk.count(1), i + 1);
            due.is("fails(" + i + ")", desk.fails(i), 0);
        }
        due.is("the 7th claim", desk.claim(1, 0, 0), ClaimDesk.FULL);
        due.is("count(1)", desk.count(1), 6);
        due.is("fails(6)", desk.fails(6), ClaimDesk.NONE);
        due.is("fails(-1)", desk.fails(-1), ClaimDesk.NONE);
        for (int sort = 0; sort <= 4; sort++) {
            due.is("claim of SORT " + sort, new ClaimDesk().claim(sort, 0, 1), 0);
        }
        for (int sort : Outside.of(0, 4)) {
            due.is("claim of SORT " + sort, new ClaimDesk().claim(sort, 0, 1), ClaimDesk.REFUSED);
        }
    }

    private static void refused(Due due, int sort, int a, int b) {
        ClaimDesk desk = new ClaimDesk();
        due.is("claim(" + sort + ", " + a + ", " + b + ")", desk.claim(sort, a, b), ClaimDesk.REFUSED);
        due.is("count(1)", desk.count(1), 0);
    }

    private static void failing(Due due, String where, ClaimDesk desk, int sort, int a, int b, boolean fails) {
        due.is("claim(" + sort + ", " + a + ", " + b + ")", desk.claim(sort, a, b), 0);
        due.is("how many FAIL " + where + ", " + sort + " " + a + " " + b, desk.now(12), fails ? 1 : 0);
    }

    static void variableIs(Due due) {
        for (int a = 0; a <= 3; a++) {
            for (int b = 0; b <= 3; b++) {
                for (int value = 0; value <= 3; value++) {
                    ClaimDesk desk = new ClaimDesk();
                    desk.begin(((value + 1) % 4) * 0b01_01_01_01);
                    desk.add(0, 0, 0, Op.set(a, value));
                    desk.walk(0);
                    failing(due, "with " + value, desk, 0, a, b, value == b);
                }
            }
        }
        for (int wrong : Outside.of(0, 3)) {
            refused(due, 0, wrong, 0);
            refused(due, 0, wrong, 3);
            refused(due, 0, 0, wrong);
            refused(due, 0, 3, wrong);
        }
    }

    static void processAt(Due due) {
        for (int a = 0; a <= 2; a++) {
            for (int b = 0; b <= 7; b++) {
                for (int at = 0; at <= 7; at++) {
                    ClaimDesk desk = new ClaimDesk();
                    for (int p = 0; p <= 2; p++) {
                        desk.add(p, 0, p == a ? at : (at + 1) % 8, Op.PASS);
                        desk.walk(p);
                    }
                    failing(due, "at " + at, desk, 1, a, b, at == b);
                }
            }
        }
        for (int wrong : Outside.of(0, 2)) {
            refused(due, 1, wrong, 0);
            refused(due, 1, wrong, 7);
        }
        for (int wrong : Outside.of(0, 7)) {
            refused(due, 1, 0, wrong);
            refused(due, 1, 2, wrong);
        }
    }

    static void samePlace(Due due) {
        for (int a = 0; a <= 2; a++) {
            refused(due, 2, a, a);
            for (int wrong : Outside.of(0, 2)) {
                refused(due, 2, a, wrong);
                refused(due, 2, wrong, a);
                refused(due, 2, wrong, wrong);
            }
            for (int b = 0; b <= 2; b++) {
                if (a != b) {
                    placesOfTwo(due, a, b);
                }
            }
        }
    }

    /** The third PROCESS is where one of the two is not, or at PLACE 3. */
    private static void placesOfTwo(Due due, int a, int b) {
        for (int placeOfA = 0; placeOfA <= 7; placeOfA++) {
            for (int placeOfB = 0; placeOfB <= 7; placeOfB++) {
                int third = placeOfA == placeOfB ? 3 : placeOfB;
                ClaimDesk desk = new ClaimDesk();
                desk.add(a, 0, placeOfA, Op.PASS);
                desk.add(b, 0, placeOfB, Op.PASS);
                desk.add(3 - a - b, 0, third, Op.PASS);
                for (int t = 0; t < 3; t++) {
                    desk.walk(t);
                }
                failing(due, "at " + placeOfA + " and " + placeOfB, desk, 2, a, b, placeOfA == placeOfB);
            }
        }
    }

    static void channelHas(Due due) {
        int[] anyB = {0, 3, -1, 4, 8, Integer.MIN_VALUE, Integer.MAX_VALUE};
        for (int a = 0; a <= 2; a++) {
            for (int length = 0; length <= 2; length++) {
                for (int b : anyB) {
                    ClaimDesk desk = new ClaimDesk();
                    desk.add(0, 0, 0, Op.send(0));
                    for (int i = 0; i < length; i++) {
                        desk.walk(0);
                    }
                    failing(due, "with " + length + " values", desk, 3, a, b, length >= a);
                }
            }
        }
        for (int wrong : Outside.of(0, 2)) {
            refused(due, 3, wrong, 0);
        }
    }

    static void variableGreater(Due due) {
        for (int a = 0; a <= 3; a++) {
            for (int b = 0; b <= 3; b++) {
                for (int values = 0; values < 16; values++) {
                    int valueOfA = values / 4;
                    int valueOfB = a == b ? valueOfA : values % 4;
                    ClaimDesk desk = new ClaimDesk();
                    desk.add(0, 0, 0, Op.set(a, valueOfA));
                    desk.add(0, 0, 0, Op.set(b, valueOfB));
                    desk.walk(0);
                    desk.walk(1);
                    failing(due, "with " + valueOfA + " and " + valueOfB, desk, 4, a, b, valueOfA > valueOfB);
                }
            }
        }
        for (int wrong : Outside.of(0, 3)) {
            refused(due, 4, wrong, 0);
            refused(due, 4, wrong, 3);
            refused(due, 4, 0, wrong);
            refused(due, 4, 3, wrong);
        }
    }
}
