/** Cooperatives in states in which each part of the state holds something. */
final class Recipes {
    private static final String SIXTY =
            "beats 10;beats 10;beats 10;beats 10;beats 10;beats 1;quarter";

    private Recipes() {
    }

    /** Coins, springs, spoilt beats, dissents and a saved state; more calls than can be undone. */
    private static CricketCooperative lively() {
        CricketCooperative c = new CricketCooperative();
        c.addMember(10, 2, 0, 0);
        c.addMember(20, 2, 1, 4);
        c.addMember(15, 6, 4, 6);
        c.wind(0, 60);
        c.wind(1, 60);
        c.wind(2, 9);
        c.passBeats(40);
        c.endQuarter();
        c.save();
        c.buyShares(0, 1);
        c.passBeats(11);
        c.vote(3, 1);
        c.tune(1, 5);
        c.addMember(5, 3, 2, 9);
        c.wind(3, 60);
        c.passBeats(7);
        c.vote(0, 6);
        c.vote(7, 4);
        return c;
    }

    /** An error position 2, a failed command 1, and a text that is a program. */
    private static void type(CricketCooperative c) {
        fails(c, "bux");
        fails(c, "beats 1;beats 0");
        View.type(c, "beats 7");
    }

    static void fails(CricketCooperative c, String text) {
        View.type(c, text);
        try {
            c.run();
        } catch (IllegalArgumentException | UnsupportedOperationException e) {
            return;
        }
        throw new AssertionError(text + " did not fail");
    }

    static CricketCooperative full() {
        CricketCooperative c = lively();
        c.writeMember(1);
        type(c);
        return c;
    }

    static CricketCooperative eightMembers() {
        CricketCooperative c = full();
        for (int member = 4; member < 8; member++) {
            c.addMember(member, 4, 1, member);
        }
        return c;
    }

    /** No members, but a beat, calls to undo, and a saved state with a member. */
    static CricketCooperative noMembers() {
        CricketCooperative c = View.withShares(7);
        c.writeMember(0);
        c.save();
        c.undo();
        for (int beats = 1; beats < 10; beats++) {
            c.passBeats(beats);
        }
        type(c);
        return c;
    }

    static CricketCooperative fullBuffer() {
        CricketCooperative c = lively();
        c.writeMember(1);
        fails(c, "bux");
        fails(c, "beats 1;beats 0");
        View.type(c, SIXTY);
        return c;
    }

    /** Nothing was written, typed or stored. */
    static CricketCooperative noTexts() {
        return lively();
    }

    static CricketCooperative nothingToUndo() {
        CricketCooperative c = full();
        c.restore();
        return c;
    }

    static CricketCooperative neverSaved() {
        CricketCooperative c = View.withTones(0, 6);
        c.wind(0, 9);
        c.passBeats(10);
        c.endQuarter();
        c.writeMember(1);
        type(c);
        return c;
    }
}
