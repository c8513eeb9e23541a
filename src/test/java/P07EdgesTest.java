import java.io.IOException;

public final class P07EdgesTest {
    public static void main(String[] args) throws IOException {
        Sentences said = new Sentences("Promise 7: explore");
        said.hold("The SPACE is made (anew): how many STATES.", P07EdgesTest::howMany);
        said.hold("LARGE if it is so;", P07EdgesTest::large);
        said.hold("there is no SPACE then.", P07EdgesTest::noSpaceThen);
        said.end();
    }

    private static void howMany(Due due) {
        due.is("the least SPACE", new ClaimDesk().explore(), 1);
        due.is("two STATES", Desks.chain(1).explore(), 2);
        due.is("the greatest SPACE", Desks.threeHundred().explore(), 300);
        ClaimDesk desk = Desks.longRow();
        due.is("the greatest SPACE in a row", desk.explore(), 300);
        due.is("the same made anew", desk.explore(), 300);
        due.is("count(2)", desk.count(2), 300);
        due.is("count(3)", desk.count(3), 299);
        due.is("state(299, 6)", desk.state(299, 6), 0);
        due.is("state(300, 6)", desk.state(300, 6), ClaimDesk.NONE);
        desk.clear();
        due.is("the least SPACE after the greatest", desk.explore(), 1);
        due.is("count(3)", desk.count(3), 0);
        due.is("state(1, 0)", desk.state(1, 0), ClaimDesk.NONE);
        Twins.unchanged(due, "explore() again", Desks::busy, ClaimDesk::explore, 5);
    }

    /** 299, 300, 301, and many more. */
    private static void large(Due due) {
        due.is("299", Desks.shorterRow().explore(), 299);
        due.is("300", Desks.longRow().explore(), 300);
        due.is("301", Desks.longerRow().explore(), ClaimDesk.LARGE);
        due.is("301, the last one by the last TRANSITION", Desks.tooLong().explore(), ClaimDesk.LARGE);
        ClaimDesk two = Desks.tooLong();
        two.add(1, 1, 2, Op.PASS);
        due.is("302", two.explore(), ClaimDesk.LARGE);
        ClaimDesk all = new ClaimDesk();
        for (int p = 0; p < 3; p++) {
            for (int place = 0; place < 7; place++) {
                all.add(p, place, place + 1, Op.PASS);
            }
        }
        all.add(0, 0, 0, Op.add(0, 1));
        all.add(1, 0, 0, Op.add(1, 1));
        all.add(2, 7, 7, Op.add(2, 1));
        due.is("far more", all.explore(), ClaimDesk.LARGE);
        due.is("far more again", all.explore(), ClaimDesk.LARGE);
    }

    private static void noSpaceThen(Due due) {
        ClaimDesk desk = Desks.longRow();
        desk.claim(3, 0, 0);
        due.is("explore()", desk.explore(), 300);
        due.is("fails(0)", desk.fails(0), 0);
        desk.add(1, 0, 1, Op.is(3, 0));
        due.is("explore()", desk.explore(), ClaimDesk.LARGE);
        NoSpace.in(due, desk);
        due.is("explore() again", desk.explore(), ClaimDesk.LARGE);
        NoSpace.in(due, desk);
        due.is("count(0)", desk.count(0), 12);
        due.is("count(1)", desk.count(1), 1);
        due.is("the CLAIM FAILS now", desk.now(12), 1);
        due.yes("walk(6)", desk.walk(6));
        due.yes("change", desk.change(11, 1, 0, 0, Op.PASS));
        due.is("explore() when it fits again", desk.explore(), 300);
        due.is("now(11)", desk.now(11), 1);
    }
}
