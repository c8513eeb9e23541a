/** Objects with which several tests begin. */
final class Desks {
    private Desks() {
    }

    /** PROCESS 0 goes 0, 1, 2, .., places, and is stuck there. */
    static ClaimDesk chain(int places) {
        ClaimDesk desk = new ClaimDesk();
        for (int p = 0; p < places; p++) {
            desk.add(0, p, p + 1, Op.PASS);
        }
        return desk;
    }

    /**
     * 300 STATES, and no more: PROCESSES 0 and 1 go round 5 PLACES each, PROCESS 2 round 3, and
     * VARIABLE 0 round its 4 values by a TRANSITION of PROCESS 0 that stays at PLACE 0.
     */
    static ClaimDesk threeHundred() {
        ClaimDesk desk = new ClaimDesk();
        addRound(desk, 0, 5);
        addRound(desk, 1, 5);
        addRound(desk, 2, 3);
        desk.add(0, 0, 0, Op.add(0, 1));
        return desk;
    }

    static void addRound(ClaimDesk desk, int process, int places) {
        for (int p = 0; p < places; p++) {
            desk.add(process, p, (p + 1) % places, Op.PASS);
        }
    }

    /** All three PROCESSES go from PLACE 0 to PLACE 7: 8 STATES, the last one DONE. */
    static ClaimDesk allToSeven() {
        ClaimDesk desk = new ClaimDesk();
        for (int p = 0; p < 3; p++) {
            desk.add(p, 0, 7, Op.PASS);
        }
        return desk;
    }
}
