import java.io.IOException;

/** The section before the terms: how many calls an object answers. */
public final class WhatItIsEdgesTest {
    private static final int CALLS = 512;

    public static void main(String[] args) throws IOException {
        Sentences said = new Sentences("What it is");
        said.nameNoEdge("A small model checker: processes with places and transitions over shared variables and a"
                + " channel are gone through state by state; claims are checked with the shortest way to where they"
                + " fail, states that are stuck are found, and what must come again and again; and one may walk"
                + " through the states by hand.");
        said.hold("An object is used for at most 512 calls after it has been made;", WhatItIsEdgesTest::everyCall);
        said.nameNoEdge("what later calls answer is free.");
        said.end();
    }

    /** The dearest calls, up to the last one that is promised. */
    private static void everyCall(Due due) {
        ClaimDesk exploring = Desks.threeHundred();
        for (int call = exploring.count(0) + 2; call <= CALLS; call++) {
            due.is("call " + call + ", explore()", exploring.explore(), 300);
        }
        ClaimDesk large = Desks.tooLong();
        for (int call = large.count(0) + 3; call <= CALLS; call++) {
            due.is("call " + call + ", explore()", large.explore(), ClaimDesk.LARGE);
        }
        ClaimDesk row = Desks.longRow();
        row.claim(0, 3, 0);
        row.explore();
        for (int call = row.count(0) + 5; call < CALLS; call += 2) {
            due.is("call " + call + ", avoids(0, 1)", row.avoids(0, 1), 0);
            due.is("call " + (call + 1) + ", way(299, 0)", row.way(299, 0), 6);
        }
        ClaimDesk walking = Desks.chain(1);
        walking.change(0, 0, 0, 0, Op.add(0, 1));
        for (int call = 3; call < CALLS; call++) {
            due.yes("call " + call + ", walk(0)", walking.walk(0));
        }
        due.is("call 512, now(13)", walking.now(13), CALLS - 3);
    }
}
