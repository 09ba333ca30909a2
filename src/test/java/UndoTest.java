/** Promises 49 to 51: undo, save and restore. */
public final class UndoTest {
    private static final Checks checks = new Checks();
    private static final Class<IllegalStateException> STATE = IllegalStateException.class;
    private static final Class<IllegalArgumentException> ARGUMENT = IllegalArgumentException.class;
    private static final Class<UnsupportedOperationException> UNSUPPORTED =
            UnsupportedOperationException.class;

    public static void main(String[] args) {
        checks.test("49: undo takes each changing method back", UndoTest::eachMethod);
        checks.test("49: undo, at most eight calls", UndoTest::eightCalls);
        checks.test("49: undo, calls after an undo", UndoTest::callsAfterUndo);
        checks.test("49: undo, calls that change nothing", UndoTest::callsWithoutEffect);
        checks.test("49: undo, calls that throw are not counted", UndoTest::callsThatThrow);
        checks.test("49: undo, other calls are not counted", UndoTest::otherCalls);
        checks.test("49: undo takes a whole run back", UndoTest::wholeRun);
        checks.test("49: undo leaves texts and positions alone", UndoTest::textsStay);
        checks.test("50: save is not a changing call", UndoTest::saving);
        checks.test("50: save replaces what was saved", UndoTest::savingAgain);
        checks.test("51: restore", UndoTest::restoring);
        checks.test("51: restore, no call can be undone", UndoTest::noUndoAfterRestore);
        checks.test("51: restore leaves texts and positions alone", UndoTest::textsStayAtRestore);
        checks.end();
    }

    /** Coins, spoilt beats, a house tone and dissents; no call can be undone. */
    private static CricketCooperative busy() {
        CricketCooperative c = new CricketCooperative();
        c.addMember(10, 2, 0, 0);
        c.addMember(20, 3, 1, 1);
        c.wind(0, 55);
        c.wind(1, 55);
        c.passBeats(60);
        c.endQuarter();
        c.passBeats(9);
        c.vote(2, 1);
        c.save();
        c.restore();
        return c;
    }

    private static void takesBack(CricketCooperative c, String what, Checks.Body call) {
        String before = View.of(c);
        checks.throwsExactly(STATE, "undo before " + what, c::undo);
        call.run();
        checks.same("a change by " + what, false, before.equals(View.of(c)));
        checks.same("undo of " + what, 0, c.undo());
        checks.same("the state after undo of " + what, before, View.of(c));
        checks.refuses(STATE, c, "one more undo", c::undo);
    }

    private static void eachMethod() {
        CricketCooperative c = busy();
        takesBack(c, "addMember", () -> c.addMember(1, 2, 0, 0));
        takesBack(c, "wind", () -> c.wind(0, 1));
        takesBack(c, "tune", () -> c.tune(1, 7));
        takesBack(c, "buyShares", () -> c.buyShares(0, 1));
        CricketCooperative d = busy();
        takesBack(d, "passBeats", () -> d.passBeats(60));
        takesBack(d, "endQuarter", d::endQuarter);
        takesBack(d, "vote", () -> d.vote(1, 0));
        View.type(d, "beats 9;quarter");
        takesBack(d, "run", d::run);
        firstSpoiltBeat();
        CricketCooperative empty = new CricketCooperative();
        takesBack(empty, "addMember", () -> empty.addMember(5, 2, 1, 3));
        checks.same("members", 0, empty.memberCount());
        checks.same("addMember", 0, empty.addMember(6, 3, 2, 4));
        checks.same("line", "6%3+2^4~0$0", View.line(empty, empty.writeMember(0)));
    }

    private static void firstSpoiltBeat() {
        CricketCooperative c = View.withTones(0, 6);
        c.wind(0, 9);
        c.wind(1, 9);
        c.save();
        c.restore();
        takesBack(c, "a spoilt beat", () -> c.passBeats(2));
        c.passBeats(2);
        c.restore();
        checks.same("spoilt beats", "", View.spoiltBeats(c));
    }

    private static void eightCalls() {
        CricketCooperative c = new CricketCooperative();
        for (int call = 0; call < 12; call++) {
            c.passBeats(1);
        }
        for (int left = 7; left >= 0; left--) {
            checks.same("undo", left, c.undo());
            checks.same("beat", 4 + left, c.beat());
        }
        checks.refuses(STATE, c, "the ninth undo", c::undo);
        CricketCooperative exact = new CricketCooperative();
        for (int call = 0; call < 8; call++) {
            exact.passBeats(1 + call);
        }
        checks.same("undo", 7, exact.undo());
        checks.same("beat", 28, exact.beat());
    }

    private static void callsAfterUndo() {
        CricketCooperative c = new CricketCooperative();
        for (int call = 0; call < 10; call++) {
            c.passBeats(1);
        }
        checks.same("undo", 7, c.undo());
        checks.same("undo", 6, c.undo());
        checks.same("undo", 5, c.undo());
        c.passBeats(20);
        checks.same("beat", 27, c.beat());
        checks.same("undo", 5, c.undo());
        checks.same("beat", 7, c.beat());
        c.passBeats(30);
        c.passBeats(31);
        c.passBeats(32);
        c.passBeats(33);
        int[] due = {100, 68, 37, 7, 6, 5, 4, 3};
        for (int left = 7; left >= 0; left--) {
            checks.same("undo", left, c.undo());
            checks.same("beat", due[7 - left], c.beat());
        }
        checks.throwsExactly(STATE, "undo", c::undo);
    }

    private static void callsWithoutEffect() {
        CricketCooperative c = View.withTones(0, 6);
        c.vote(0, 0);
        c.tune(0, 0);
        c.vote(0, 6);
        c.endQuarter();
        checks.same("undo endQuarter", 5, c.undo());
        checks.same("undo vote", 4, c.undo());
        checks.same("undo tune", 3, c.undo());
        checks.same("undo vote", 2, c.undo());
        checks.same("members", 2, c.memberCount());
        checks.same("undo addMember", 1, c.undo());
        checks.same("members", 1, c.memberCount());
    }

    private static void callsThatThrow() {
        CricketCooperative c = View.withShares(1);
        checks.throwsExactly(ARGUMENT, "addMember", () -> c.addMember(0, 2, 0, 0));
        checks.throwsExactly(ARGUMENT, "wind", () -> c.wind(0, 0));
        checks.throwsExactly(ARGUMENT, "tune", () -> c.tune(0, 12));
        checks.throwsExactly(UNSUPPORTED, "buyShares", () -> c.buyShares(0, 1));
        checks.throwsExactly(ARGUMENT, "passBeats", () -> c.passBeats(0));
        checks.throwsExactly(ARGUMENT, "vote", () -> c.vote(0, 7));
        checks.throwsExactly(ARGUMENT, "run", c::run);
        View.type(c, "beats 5;buy 0 1");
        checks.throwsExactly(UNSUPPORTED, "run", c::run);
        checks.same("undo", 0, c.undo());
        checks.same("members", 0, c.memberCount());
        checks.throwsExactly(STATE, "endQuarter", c::endQuarter);
        checks.throwsExactly(STATE, "undo", c::undo);
    }

    private static void otherCalls() {
        CricketCooperative c = busy();
        c.tune(0, 3);
        String before = View.of(c);
        c.earningsIn(60);
        c.dividend(0);
        c.dividendByCounting(1);
        c.winningGroupsByTable();
        c.isConsistent();
        c.append('x');
        c.writeMember(1);
        c.save();
        checks.same("view", before, View.of(c));
        checks.same("undo", 0, c.undo());
        checks.same("tone", 0, c.tone(0));
    }

    private static void wholeRun() {
        CricketCooperative c = new CricketCooperative();
        View.type(c, "join 9 2 0 0;wind 0 9;beats 6;quarter;vote 0 0;tune 0 5");
        checks.same("run", 6, c.run());
        checks.same("coins", 3, c.purse(0));
        View.type(c, "beats 6;quarter");
        checks.same("run", 2, c.run());
        checks.same("coins", 6, c.purse(0));
        checks.same("undo", 1, c.undo());
        checks.same("coins", 3, c.purse(0));
        checks.same("quarters", 1, c.quarters());
        checks.same("beat", 6, c.beat());
        checks.same("undo", 0, c.undo());
        checks.same("members", 0, c.memberCount());
        checks.same("beat", 0, c.beat());
    }

    /** An error position 2, a failed command 1, "ab" in the buffer and a line of the member 0. */
    private static void fillTexts(CricketCooperative c) {
        View.type(c, "bux");
        checks.throwsExactly(ARGUMENT, "run", c::run);
        View.type(c, "quarter;beats 0");
        checks.throwsExactly(UNSUPPORTED, "run", c::run);
        View.type(c, "ab");
        c.writeMember(0);
    }

    private static void checkTexts(CricketCooperative c, String line) {
        checks.same("errorPosition", 2, c.errorPosition());
        checks.same("failedCommand", 1, c.failedCommand());
        checks.same("line", line, View.line(c, line.length()));
        checks.throwsExactly(IndexOutOfBoundsException.class, "the line's end",
                () -> c.outputAt(line.length()));
        checks.same("append", 3, c.append('c'));
    }

    private static void textsStay() {
        CricketCooperative c = new CricketCooperative();
        c.addMember(7, 3, 1, 5);
        fillTexts(c);
        checks.same("undo", 0, c.undo());
        checks.same("members", 0, c.memberCount());
        checkTexts(c, "7%3+1^5~0$0");
    }

    private static void saving() {
        CricketCooperative c = busy();
        c.tune(0, 5);
        c.save();
        c.tune(0, 6);
        c.save();
        checks.same("undo", 1, c.undo());
        checks.same("tone", 5, c.tone(0));
        checks.same("undo", 0, c.undo());
        checks.same("tone", 0, c.tone(0));
        c.restore();
        checks.same("undo does not take save back", 6, c.tone(0));
    }

    private static void savingAgain() {
        CricketCooperative c = View.withTones(1);
        c.save();
        c.tune(0, 2);
        c.save();
        c.tune(0, 3);
        c.restore();
        checks.same("tone", 2, c.tone(0));
        CricketCooperative empty = new CricketCooperative();
        empty.save();
        empty.addMember(1, 2, 0, 0);
        empty.passBeats(5);
        empty.restore();
        checks.same("members", 0, empty.memberCount());
        checks.same("beat", 0, empty.beat());
    }

    private static void restoring() {
        CricketCooperative c = View.withTones(0, 1);
        checks.refuses(STATE, c, "restore", c::restore);
        CricketCooperative d = busy();
        String saved = View.of(d);
        for (int round = 0; round < 2; round++) {
            d.tune(0, 4);
            d.buyShares(1, 2);
            d.addMember(4, 5, 3, 2);
            d.passBeats(33);
            d.endQuarter();
            d.vote(1, 0);
            checks.same("dissents", "2 0 1", d.dissents(0) + " " + d.dissents(1) + " " + d.dissents(2));
            checks.same("a change", false, saved.equals(View.of(d)));
            d.restore();
            checks.same("view", saved, View.of(d));
        }
        d.addMember(4, 5, 3, 2);
        checks.same("dissents of the new one", 0, d.dissents(2));
        checks.same("purse of the new one", 0, d.purse(2));
    }

    private static void noUndoAfterRestore() {
        CricketCooperative c = View.withTones(0, 1, 2);
        c.save();
        checks.same("save keeps the calls", 2, c.undo());
        c.restore();
        checks.same("members", 3, c.memberCount());
        checks.refuses(STATE, c, "undo", c::undo);
        c.tune(2, 9);
        checks.same("undo", 0, c.undo());
        checks.same("tone", 2, c.tone(2));
        checks.refuses(STATE, c, "undo", c::undo);
    }

    private static void textsStayAtRestore() {
        CricketCooperative c = new CricketCooperative();
        c.addMember(7, 3, 1, 5);
        c.save();
        c.addMember(8, 3, 1, 5);
        fillTexts(c);
        c.restore();
        checks.same("members", 1, c.memberCount());
        checkTexts(c, "7%3+1^5~0$0");
    }
}
