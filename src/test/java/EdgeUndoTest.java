/** The boundary cases of promises 49 to 51, a test for each sentence: undo, save and restore. */
public final class EdgeUndoTest {
    private static final Checks checks = new Checks();

    public static void main(String[] args) {
        nothingToUndo();
        numbersOfCalls();
        orderOfCalls();
        callsOfEachMethod();
        eighthMember();
        callsWithoutDifference();
        callsThatAreNotUndone();
        refusedCalls();
        leftByUndo();
        saving();
        leftBySave();
        nothingSaved();
        restoring();
        restoredParts();
        undoAfterRestore();
        leftByRestore();
        lastCall();
        checks.end();
    }

    private static void nothingToUndo() {
        checks.test("49: undo, no call can be undone on a new object", () -> {
            CricketCooperative c = new CricketCooperative();
            checks.refuses(Checks.STATE, c, "undo", c::undo);
        });
        checks.test("49: undo, the only call, and then no other", () -> {
            CricketCooperative c = View.withShares(1);
            checks.same("undo", 0, c.undo());
            checks.same("members", 0, c.memberCount());
            checks.refuses(Checks.STATE, c, "undo", c::undo);
        });
        checks.test("49: undo, a refused undo does not spoil the next call's", () -> {
            CricketCooperative c = new CricketCooperative();
            checks.throwsExactly(Checks.STATE, "undo", c::undo);
            c.passBeats(3);
            c.passBeats(4);
            checks.same("undo", 1, c.undo());
            checks.same("beat", 3, c.beat());
        });
    }

    private static CricketCooperative beatsOf(int... beats) {
        CricketCooperative c = new CricketCooperative();
        for (int number : beats) {
            c.passBeats(number);
        }
        return c;
    }

    private static void undoes(CricketCooperative c, int... beats) {
        for (int index = 0; index < beats.length; index++) {
            checks.same("undo", beats.length - 1 - index, c.undo());
            checks.same("beat", beats[index], c.beat());
        }
        checks.refuses(Checks.STATE, c, "one more undo", c::undo);
    }

    private static void numbersOfCalls() {
        checks.test("49, Terms, undo: seven calls",
                () -> undoes(beatsOf(1, 2, 3, 4, 5, 6, 7), 21, 15, 10, 6, 3, 1, 0));
        checks.test("49, Terms, undo: eight calls",
                () -> undoes(beatsOf(1, 2, 3, 4, 5, 6, 7, 8), 28, 21, 15, 10, 6, 3, 1, 0));
        checks.test("49, Terms, undo: of nine calls the 8 most recent ones",
                () -> undoes(beatsOf(1, 2, 3, 4, 5, 6, 7, 8, 9), 36, 28, 21, 15, 10, 6, 3, 1));
        checks.test("49, Terms, undo: of twenty calls the 8 most recent ones", () -> undoes(
                beatsOf(1, 1, 1, 1, 1, 1, 1, 1, 1, 1, 1, 1, 1, 1, 1, 1, 1, 1, 1, 1),
                19, 18, 17, 16, 15, 14, 13, 12));
    }

    private static void orderOfCalls() {
        checks.test("49: undo, the most recent call first", () -> {
            CricketCooperative c = View.withShares(1);
            c.tune(0, 5);
            c.passBeats(4);
            c.undo();
            checks.same("beat", 0, c.beat());
            checks.same("tone", 5, c.tone(0));
            c.undo();
            checks.same("tone", 0, c.tone(0));
        });
        checks.test("49: undo, an undone call is not undone once more", () -> {
            CricketCooperative c = beatsOf(1, 2, 3);
            c.undo();
            c.undo();
            checks.same("undo", 0, c.undo());
            checks.same("beat", 0, c.beat());
        });
        checks.test("49: undo, calls after an undo", () -> {
            CricketCooperative c = beatsOf(1, 2, 3);
            c.undo();
            c.passBeats(10);
            undoes(c, 3, 1, 0);
        });
        checks.test("49: undo, eight calls after eight undos", () -> {
            CricketCooperative c = beatsOf(1, 1, 1, 1, 1, 1, 1, 1, 1, 1, 1);
            for (int call = 0; call < 8; call++) {
                c.undo();
            }
            checks.same("beat", 3, c.beat());
            for (int call = 0; call < 8; call++) {
                c.passBeats(2);
            }
            undoes(c, 17, 15, 13, 11, 9, 7, 5, 3);
        });
        checks.test("49: undo, more calls than places after some undos", () -> {
            CricketCooperative c = beatsOf(1, 1, 1, 1, 1, 1);
            c.undo();
            c.undo();
            c.undo();
            for (int call = 0; call < 7; call++) {
                c.passBeats(2);
            }
            undoes(c, 15, 13, 11, 9, 7, 5, 3, 2);
        });
    }

    private static void isUndone(String name, Probe.Call call) {
        checks.test("49: undo takes " + name + " back", () -> {
            CricketCooperative c = Recipes.full();
            String before = View.of(c);
            call.on(c);
            checks.same("a difference", false, before.equals(View.of(c)));
            checks.same("undo", 7, c.undo());
            checks.same("the state", before, View.of(c));
        });
    }

    private static void callsOfEachMethod() {
        isUndone("addMember", c -> c.addMember(50, 12, 11, 11));
        isUndone("wind", c -> c.wind(2, 60));
        isUndone("tune", c -> c.tune(3, 0));
        isUndone("buyShares", c -> c.buyShares(1, 3));
        isUndone("passBeats", c -> c.passBeats(60));
        isUndone("endQuarter", CricketCooperative::endQuarter);
        isUndone("vote", c -> c.vote(5, 1));
        isUndone("run", CricketCooperative::run);
    }

    private static CricketCooperative sevenMembers() {
        return View.withTones(0, 0, 0, 0, 0, 0, 0);
    }

    /** Five calls, after which each part of the eighth member holds something. */
    private static void joinEighth(CricketCooperative c, int period, int tone) {
        c.addMember(30 + period, period, period - 1, tone);
        c.wind(7, 10 + period);
        c.passBeats(60);
        c.endQuarter();
        c.vote(0, 1);
    }

    private static void eighthMember() {
        checks.test("49: undo brings all of the eighth member back", () -> {
            CricketCooperative c = sevenMembers();
            joinEighth(c, 6, 4);
            String before = View.of(c);
            String line = View.line(c, c.writeMember(7));
            checks.same("the eighth", "36%6+5^4~6$3 1", line + " " + c.dissents(7));
            c.wind(7, 5);
            c.tune(7, 8);
            c.passBeats(60);
            c.endQuarter();
            c.buyShares(7, 1);
            c.vote(0, 1);
            for (int call = 0; call < 6; call++) {
                c.undo();
            }
            checks.same("the state", before, View.of(c));
            checks.same("line", line, View.line(c, c.writeMember(7)));
        });
        checks.test("51: restore brings all of the eighth member back", () -> {
            CricketCooperative c = sevenMembers();
            joinEighth(c, 6, 4);
            String before = View.of(c);
            String line = View.line(c, c.writeMember(7));
            c.save();
            for (int call = 0; call < 5; call++) {
                c.undo();
            }
            checks.same("members", 7, c.memberCount());
            joinEighth(c, 9, 3);
            c.vote(0, 1);
            c.restore();
            checks.same("the state", before, View.of(c));
            checks.same("line", line, View.line(c, c.writeMember(7)));
        });
    }

    private static void countsAlone(String name, Probe.Call call) {
        checks.test("49, Terms, undo: also if nothing is different, " + name, () -> {
            CricketCooperative c = View.withTones(0, 6, 6);
            c.save();
            c.restore();
            String before = View.of(c);
            call.on(c);
            checks.same("the state", before, View.of(c));
            checks.same("undo", 0, c.undo());
            checks.same("the state", before, View.of(c));
            checks.refuses(Checks.STATE, c, "one more undo", c::undo);
        });
    }

    private static void callsWithoutDifference() {
        countsAlone("tune to the same tone", c -> c.tune(1, 6));
        countsAlone("vote that is not carried", c -> c.vote(0, 0));
        countsAlone("vote that is carried, of the house tone, without a dissent",
                c -> c.vote(0, 6));
        countsAlone("run of a tune to the same tone", c -> {
            View.type(c, "tune 0 0");
            c.run();
        });
        countsAlone("run of votes that are not carried", c -> {
            View.type(c, "vote 0 0;vote 3 2");
            c.run();
        });
        checks.test("49, Terms, undo: calls without a difference push others out", () -> {
            CricketCooperative c = View.withTones(3);
            c.passBeats(5);
            for (int call = 0; call < 8; call++) {
                c.tune(0, 3);
            }
            for (int left = 7; left >= 0; left--) {
                checks.same("undo", left, c.undo());
            }
            checks.refuses(Checks.STATE, c, "one more undo", c::undo);
            checks.same("beat", 5, c.beat());
        });
        checks.test("49, Terms, undo: a vote without members", () -> {
            CricketCooperative c = new CricketCooperative();
            c.vote(5, 6);
            checks.same("undo", 0, c.undo());
        });
        checks.test("49, Terms, undo: a quarter without coins", () -> {
            CricketCooperative c = View.withShares(1);
            c.endQuarter();
            checks.same("undo", 1, c.undo());
            checks.same("quarters", 0, c.quarters());
        });
    }

    private static void callsThatAreNotUndone() {
        checks.test("49: undo, a run of several commands is one call", () -> {
            CricketCooperative c = new CricketCooperative();
            View.type(c, "join 1 2 0 0;wind 0 9;beats 9;quarter;join 2 2 0 0");
            checks.same("run", 5, c.run());
            checks.same("undo", 0, c.undo());
            checks.same("members", 0, c.memberCount());
            checks.same("beat", 0, c.beat());
        });
        checks.test("49: undo, no call to undo from append and writeMember", () -> {
            CricketCooperative c = View.withShares(1);
            c.append('x');
            c.writeMember(0);
            checks.same("undo", 0, c.undo());
            checks.same("members", 0, c.memberCount());
        });
        checks.test("49: undo, no call to undo from queries", () -> {
            CricketCooperative c = View.withShares(1);
            c.wind(0, 9);
            c.passBeats(9);
            View.of(c);
            c.earningsIn(60);
            c.memberAtRank(0);
            c.dueBeatsByDoubling(0);
            c.commonBeats(0, 0);
            c.beatsUntilChorus();
            c.dividend(0);
            c.dividendByCounting(0);
            c.sharesInFavour(0, 0);
            c.carriedTone(0);
            c.winningGroups();
            c.winningGroupsByTable();
            c.power(0);
            c.powerByTable(0);
            c.smallestMajority();
            c.meanPurse();
            c.powerShare(0);
            c.isConsistent();
            checks.same("undo", 2, c.undo());
            checks.same("beat", 0, c.beat());
        });
    }

    private static void isNotCounted(String name, Class<? extends RuntimeException> due,
            Probe.Call call) {
        checks.test("49: undo, no call to undo from a refused " + name, () -> {
            CricketCooperative c = View.withShares(50);
            c.passBeats(5);
            checks.throwsExactly(due, name, () -> call.on(c));
            checks.same("undo", 1, c.undo());
            checks.same("beat", 0, c.beat());
        });
    }

    private static void refusedCalls() {
        isNotCounted("addMember", Checks.ARGUMENT, c -> c.addMember(0, 2, 0, 0));
        isNotCounted("wind", Checks.ARGUMENT, c -> c.wind(0, 61));
        isNotCounted("tune", Checks.ARGUMENT, c -> c.tune(0, 12));
        isNotCounted("buyShares", Checks.STATE, c -> c.buyShares(0, 1));
        isNotCounted("passBeats", Checks.ARGUMENT, c -> c.passBeats(0));
        isNotCounted("vote", Checks.ARGUMENT, c -> c.vote(12, 0));
        isNotCounted("run of no program", Checks.ARGUMENT, CricketCooperative::run);
        isNotCounted("run of a command that fails", Checks.UNSUPPORTED, c -> {
            View.type(c, "beats 1;beats 0");
            c.run();
        });
        checks.test("49: undo, no call to undo from a refused endQuarter", () -> {
            CricketCooperative c = beatsOf(5);
            checks.throwsExactly(Checks.STATE, "endQuarter", c::endQuarter);
            checks.same("undo", 0, c.undo());
            checks.same("beat", 0, c.beat());
        });
    }

    private static void leftByUndo() {
        checks.test("49, Terms, undo: undo leaves the text buffer", () -> {
            CricketCooperative c = beatsOf(5);
            View.type(c, "beats 7");
            c.undo();
            checks.same("run", 1, c.run());
            checks.same("beat", 7, c.beat());
        });
        checks.test("49, Terms, undo: undo of a run leaves the text buffer empty", () -> {
            CricketCooperative c = new CricketCooperative();
            View.type(c, "beats 7");
            c.run();
            c.undo();
            checks.same("append", 1, c.append('b'));
        });
        checks.test("49, Terms, undo: undo leaves the error position", () -> {
            CricketCooperative c = beatsOf(5);
            Recipes.fails(c, "bux");
            c.undo();
            checks.same("errorPosition", 2, c.errorPosition());
        });
        checks.test("49, Terms, undo: undo leaves the failed command", () -> {
            CricketCooperative c = beatsOf(5);
            Recipes.fails(c, "beats 1;beats 0");
            c.undo();
            checks.same("failedCommand", 1, c.failedCommand());
        });
        checks.test("49, Terms, undo: undo leaves the output line", () -> {
            CricketCooperative c = View.withShares(7);
            c.writeMember(0);
            c.undo();
            checks.same("line", "7%2+0^0~0$0", View.line(c, 11));
        });
        checks.test("49, 51: undo leaves the saved state", () -> {
            CricketCooperative c = beatsOf(5, 6);
            c.save();
            c.undo();
            c.undo();
            c.restore();
            checks.same("beat", 11, c.beat());
        });
    }

    private static void saving() {
        checks.test("50: save replaces a previously saved state", () -> {
            CricketCooperative c = beatsOf(5);
            c.save();
            c.passBeats(6);
            c.save();
            c.passBeats(7);
            c.restore();
            checks.same("beat", 11, c.beat());
        });
        checks.test("50: save is not a changing call", () -> {
            CricketCooperative c = beatsOf(5);
            c.save();
            checks.same("undo", 0, c.undo());
            checks.same("beat", 0, c.beat());
            checks.refuses(Checks.STATE, c, "one more undo", c::undo);
        });
        checks.test("50: save takes no place of the 8 calls", () -> {
            CricketCooperative c = beatsOf(1, 2, 3, 4, 5, 6, 7, 8);
            c.save();
            undoes(c, 28, 21, 15, 10, 6, 3, 1, 0);
        });
        checks.test("50: save changes nothing that can be seen", () -> {
            CricketCooperative c = Recipes.full();
            String before = View.of(c);
            c.save();
            checks.same("the state", before, View.of(c));
        });
        checks.test("50: save of a state without members", () -> {
            CricketCooperative c = new CricketCooperative();
            c.save();
            c.addMember(1, 2, 0, 0);
            c.restore();
            checks.same("members", 0, c.memberCount());
            checks.throwsExactly(Checks.INDEX, "shares", () -> c.shares(0));
        });
        checks.test("50: save, later changes do not reach the saved state", () -> {
            CricketCooperative c = Recipes.full();
            c.save();
            String saved = View.of(c);
            c.wind(2, 9);
            c.tune(0, 8);
            c.passBeats(60);
            c.endQuarter();
            c.vote(8, 2);
            c.restore();
            checks.same("the state", saved, View.of(c));
        });
    }

    private static void leftBySave() {
        checks.test("50, Terms, undo: save leaves the text buffer", () -> {
            CricketCooperative c = new CricketCooperative();
            View.type(c, "beats 7");
            c.save();
            checks.same("run", 1, c.run());
            checks.same("beat", 7, c.beat());
        });
        checks.test("50, Terms, undo: save leaves the error position", () -> {
            CricketCooperative c = new CricketCooperative();
            Recipes.fails(c, "bux");
            c.save();
            checks.same("errorPosition", 2, c.errorPosition());
        });
        checks.test("50, Terms, undo: save leaves the failed command", () -> {
            CricketCooperative c = new CricketCooperative();
            Recipes.fails(c, "beats 1;beats 0");
            c.save();
            checks.same("failedCommand", 1, c.failedCommand());
        });
        checks.test("50, Terms, undo: save leaves the output line", () -> {
            CricketCooperative c = View.withShares(7);
            c.writeMember(0);
            c.save();
            checks.same("line", "7%2+0^0~0$0", View.line(c, 11));
        });
    }

    private static void nothingSaved() {
        checks.test("51: restore, no state was saved", () -> {
            CricketCooperative c = beatsOf(5);
            checks.refuses(Checks.STATE, c, "restore", c::restore);
        });
        checks.test("51: restore, a refused restore keeps the calls to undo", () -> {
            CricketCooperative c = beatsOf(5, 6);
            checks.throwsExactly(Checks.STATE, "restore", c::restore);
            undoes(c, 5, 0);
        });
    }

    private static void restoring() {
        checks.test("51: restore, the state stays saved", () -> {
            CricketCooperative c = beatsOf(5);
            c.save();
            for (int round = 0; round < 3; round++) {
                c.passBeats(6);
                c.restore();
                checks.same("beat", 5, c.beat());
            }
        });
        checks.test("51: restore, changes after it do not reach the saved state", () -> {
            CricketCooperative c = Recipes.full();
            c.save();
            String saved = View.of(c);
            c.restore();
            c.wind(2, 9);
            c.tune(0, 8);
            c.passBeats(60);
            c.endQuarter();
            c.restore();
            checks.same("the state", saved, View.of(c));
        });
        checks.test("51: restore with nothing different", () -> {
            CricketCooperative c = beatsOf(5);
            c.save();
            c.restore();
            checks.same("beat", 5, c.beat());
        });
    }

    private static void isRestored(String name, Probe.Call call) {
        checks.test("51: restore takes " + name + " back", () -> {
            CricketCooperative c = Recipes.full();
            c.save();
            String before = View.of(c);
            call.on(c);
            checks.same("a difference", false, before.equals(View.of(c)));
            c.restore();
            checks.same("the state", before, View.of(c));
        });
    }

    private static void restoredParts() {
        isRestored("addMember", c -> c.addMember(50, 12, 11, 11));
        isRestored("wind", c -> c.wind(2, 60));
        isRestored("tune", c -> c.tune(3, 0));
        isRestored("buyShares", c -> c.buyShares(1, 3));
        isRestored("passBeats", c -> c.passBeats(60));
        isRestored("endQuarter", CricketCooperative::endQuarter);
        isRestored("vote", c -> c.vote(5, 1));
        isRestored("run", CricketCooperative::run);
        isRestored("undo", CricketCooperative::undo);
        checks.test("51: restore brings undone members back", () -> {
            CricketCooperative c = View.withShares(7, 8);
            c.save();
            c.undo();
            c.undo();
            c.addMember(9, 3, 1, 5);
            c.restore();
            checks.same("line", "7%2+0^0~0$0", View.line(c, c.writeMember(0)));
            checks.same("line", "8%2+0^0~0$0", View.line(c, c.writeMember(1)));
        });
    }

    private static void undoAfterRestore() {
        checks.test("51: restore, afterwards no call can be undone", () -> {
            CricketCooperative c = beatsOf(1, 2, 3, 4, 5, 6, 7, 8, 9);
            c.save();
            c.passBeats(10);
            c.restore();
            checks.refuses(Checks.STATE, c, "undo", c::undo);
        });
        checks.test("51: restore, only the calls after it can be undone", () -> {
            CricketCooperative c = beatsOf(1, 2, 3, 4, 5);
            c.save();
            c.restore();
            c.passBeats(10);
            c.passBeats(20);
            undoes(c, 25, 15);
        });
        checks.test("51: restore, eight calls after it can be undone", () -> {
            CricketCooperative c = beatsOf(1, 2, 3, 4, 5);
            c.save();
            c.restore();
            for (int call = 0; call < 9; call++) {
                c.passBeats(1);
            }
            undoes(c, 23, 22, 21, 20, 19, 18, 17, 16);
        });
    }

    private static void leftByRestore() {
        checks.test("50, 51, Terms, undo: restore leaves the text buffer", () -> {
            CricketCooperative c = beatsOf(5);
            View.type(c, "bea");
            c.save();
            View.type(c, "ts 7");
            c.restore();
            checks.same("run", 1, c.run());
            checks.same("beat", 12, c.beat());
        });
        checks.test("50, 51, Terms, undo: restore leaves the error position", () -> {
            CricketCooperative c = beatsOf(5);
            Recipes.fails(c, "x");
            c.save();
            Recipes.fails(c, "bux");
            c.restore();
            checks.same("errorPosition", 2, c.errorPosition());
        });
        checks.test("50, 51, Terms, undo: restore leaves the failed command", () -> {
            CricketCooperative c = beatsOf(5);
            Recipes.fails(c, "beats 0");
            c.save();
            Recipes.fails(c, "beats 1;beats 0");
            c.restore();
            checks.same("failedCommand", 1, c.failedCommand());
        });
        checks.test("50, 51, Terms, undo: restore leaves the output line", () -> {
            CricketCooperative c = View.withShares(7, 8);
            c.writeMember(0);
            c.save();
            c.writeMember(1);
            c.restore();
            checks.same("line", "8%2+0^0~0$0", View.line(c, 11));
        });
    }

    private static void lastCall() {
        checks.test("Terms: an object answers for 512 calls", () -> {
            CricketCooperative c = beatsOf();
            for (int call = 0; call < 509; call++) {
                c.passBeats(60);
            }
            checks.same("call 510", 7, c.undo());
            checks.same("call 511", 30480, c.beat());
            checks.same("call 512", 0, c.passBeats(60));
        });
    }
}
