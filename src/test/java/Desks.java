/** Objects with which several tests begin. */
final class Desks {
    private Desks() {
    }

    /** PROCESS 0 goes 0, 1, 2, .., places, and is stuck there. */
    static ClaimDesk chain(int places) {
        ClaimDesk desk = new ClaimDesk();
        for (int p = 0; p < places; p++) {
            desk.add(0, p, p + 1, Op.PASS);
        }
        return desk;
    }

    /**
     * 300 STATES, and no more: PROCESSES 0 and 1 go round 5 PLACES each, PROCESS 2 round 3, and
     * VARIABLE 0 round its 4 values by a TRANSITION of PROCESS 0 that stays at PLACE 0.
     */
    static ClaimDesk threeHundred() {
        ClaimDesk desk = new ClaimDesk();
        addRound(desk, 0, 5);
        addRound(desk, 1, 5);
        addRound(desk, 2, 3);
        desk.add(0, 0, 0, Op.add(0, 1));
        return desk;
    }

    static void addRound(ClaimDesk desk, int process, int places) {
        for (int p = 0; p < places; p++) {
            desk.add(process, p, (p + 1) % places, Op.PASS);
        }
    }

    /**
     * STATES in one row, each with the one TRANSITION to the next: PROCESS 0 counts the VARIABLES up with
     * carries, VARIABLE 0 the lowest, in eight steps: step 2 * v adds 1 to VARIABLE v, and the next one
     * looks whether that is 0 now. PLACE 0 is where the step given is taken. If VARIABLE 3 does not begin
     * with 0, it is 0 in the last STATE and in no other one.
     */
    static ClaimDesk row(int firstStep, int values) {
        ClaimDesk desk = new ClaimDesk();
        desk.begin(values);
        for (int v = 0; v < 4; v++) {
            int adds = (2 * v + 8 - firstStep) % 8;
            int looks = (2 * v + 9 - firstStep) % 8;
            desk.add(0, adds, looks, Op.add(v, 1));
            desk.add(0, looks, (8 - firstStep) % 8, Op.isNot(v, 0));
            if (v < 3) {
                desk.add(0, looks, (2 * v + 10 - firstStep) % 8, Op.is(v, 0));
            }
        }
        return desk;
    }

    /** 300 STATES in one row. */
    static ClaimDesk longRow() {
        return row(4, 0b10_00_00_00);
    }

    /** The same row, begun one step later. */
    static ClaimDesk shorterRow() {
        return row(5, 0b10_01_00_00);
    }

    /** The same row, begun one step before: a 301st STATE would be found. */
    static ClaimDesk longerRow() {
        return row(3, 0b10_00_00_00);
    }

    /** The long row with one STATE more at its end, which is the 301st. */
    static ClaimDesk tooLong() {
        ClaimDesk desk = longRow();
        desk.add(1, 0, 1, Op.is(3, 0));
        return desk;
    }

    /** All three PROCESSES go from PLACE 0 to PLACE 7: 8 STATES, the last one DONE. */
    static ClaimDesk allToSeven() {
        ClaimDesk desk = new ClaimDesk();
        for (int p = 0; p < 3; p++) {
            desk.add(p, 0, 7, Op.PASS);
        }
        return desk;
    }

    /** 5 STATES: each TRANSITION is OPEN somewhere, and each CLAIM FAILS somewhere; nothing is explored. */
    static ClaimDesk planned() {
        ClaimDesk desk = new ClaimDesk();
        desk.begin(0b01_11_10_01);
        desk.add(0, 0, 1, Op.send(1));
        desk.add(1, 0, 2, Op.take(3));
        desk.add(0, 1, 1, Op.set(0, 2));
        desk.claim(0, 0, 2);
        desk.claim(1, 1, 2);
        desk.claim(2, 0, 2);
        desk.claim(3, 1, 0);
        desk.claim(4, 0, 3);
        return desk;
    }

    /** The same, explored, and two steps walked. */
    static ClaimDesk busy() {
        ClaimDesk desk = planned();
        desk.explore();
        desk.walk(0);
        desk.walk(2);
        return desk;
    }

    /** The same with all the TRANSITIONS and CLAIMS that there can be. */
    static ClaimDesk full() {
        ClaimDesk desk = planned();
        for (int t = 3; t < 24; t++) {
            desk.add(0, 0, 1, Op.send(1));
        }
        desk.claim(1, 0, 0);
        desk.explore();
        desk.walk(0);
        desk.walk(2);
        return desk;
    }
}
