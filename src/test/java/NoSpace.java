/** What an object with a CLAIM or without answers while there is no SPACE. */
final class NoSpace {
    private NoSpace() {
    }

    static void in(Due due, ClaimDesk desk) {
        for (int what = 2; what <= 6; what++) {
            due.is("count(" + what + ") without a SPACE", desk.count(what), ClaimDesk.NONE);
        }
        due.is("count(10) without a SPACE", desk.count(10), ClaimDesk.NONE);
        due.is("now(11) without a SPACE", desk.now(11), ClaimDesk.NONE);
        due.is("state(0, 0) without a SPACE", desk.state(0, 0), ClaimDesk.NONE);
        due.is("state(0, 10) without a SPACE", desk.state(0, 10), ClaimDesk.NONE);
        due.is("way(0, -1) without a SPACE", desk.way(0, -1), ClaimDesk.NONE);
        due.is("fails(0) without a SPACE", desk.fails(0), ClaimDesk.NONE);
        due.is("avoids(0, 0) without a SPACE", desk.avoids(0, 0), ClaimDesk.NONE);
        due.is("avoids(0, 1) without a SPACE", desk.avoids(0, 1), ClaimDesk.NONE);
        due.is("stuck(false) without a SPACE", desk.stuck(false), ClaimDesk.NONE);
        due.is("stuck(true) without a SPACE", desk.stuck(true), ClaimDesk.NONE);
        due.no("go(0) without a SPACE", desk.go(0));
    }
}
