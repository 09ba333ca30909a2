/**
 * For each method that throws: the exception that is listed first comes first, and a call that
 * throws changes nothing, except what run does to the text buffer and the stored numbers.
 */
public final class EdgeRefusedTest {
    private static final Checks checks = new Checks();

    public static void main(String[] args) {
        orderOfJoining();
        orderOfWinding();
        orderOfTuning();
        orderOfBuying();
        orderOfQueries();
        orderOfRun();
        refusedJoining();
        refusedMembers();
        refusedBuying();
        refusedChanges();
        refusedMemberQueries();
        refusedBeatQueries();
        refusedDividendQueries();
        refusedVoteQueries();
        refusedTotals();
        refusedTexts();
        refusedUndo();
        refusedPrograms();
        checks.end();
    }

    private static void orderOfJoining() {
        CricketCooperative c = View.withShares(1, 1, 1, 1, 1, 1, 1, 1);
        checks.test("2: addMember, shares out of range ahead of 8 members", () -> {
            checks.refuses(Checks.ARGUMENT, c, "0", () -> c.addMember(0, 2, 0, 0));
            checks.refuses(Checks.ARGUMENT, c, "51", () -> c.addMember(51, 2, 0, 0));
        });
        checks.test("2: addMember, a period out of range ahead of 8 members", () -> {
            checks.refuses(Checks.ARGUMENT, c, "1", () -> c.addMember(1, 1, 0, 0));
            checks.refuses(Checks.ARGUMENT, c, "13", () -> c.addMember(1, 13, 0, 0));
        });
        checks.test("2: addMember, a phase out of range ahead of 8 members", () -> {
            checks.refuses(Checks.ARGUMENT, c, "-1", () -> c.addMember(1, 2, -1, 0));
            checks.refuses(Checks.ARGUMENT, c, "2", () -> c.addMember(1, 2, 2, 0));
        });
        checks.test("2: addMember, a tone out of range ahead of 8 members", () -> {
            checks.refuses(Checks.ARGUMENT, c, "-1", () -> c.addMember(1, 2, 0, -1));
            checks.refuses(Checks.ARGUMENT, c, "12", () -> c.addMember(1, 2, 0, 12));
        });
        checks.test("2: addMember, all numbers out of range", () -> {
            CricketCooperative empty = new CricketCooperative();
            checks.refuses(Checks.ARGUMENT, empty, "all", () -> empty.addMember(0, 0, 0, 12));
        });
    }

    private static void orderOfWinding() {
        checks.test("3: wind, no such member ahead of turns out of range", () -> {
            CricketCooperative c = View.withShares(1);
            checks.refuses(Checks.INDEX, c, "0", () -> c.wind(1, 0));
            checks.refuses(Checks.INDEX, c, "61", () -> c.wind(-1, 61));
        });
        checks.test("3: wind, no such member where an undone one had a full spring", () -> {
            CricketCooperative c = View.withShares(1, 1);
            c.wind(1, 60);
            c.undo();
            c.undo();
            checks.refuses(Checks.INDEX, c, "1", () -> c.wind(1, 1));
        });
        checks.test("3: wind, turns out of range ahead of a spring of more than 60 turns", () -> {
            CricketCooperative c = View.withShares(1);
            c.wind(0, 60);
            checks.refuses(Checks.ARGUMENT, c, "61", () -> c.wind(0, 61));
            checks.refuses(Checks.ARGUMENT, c, "far", () -> c.wind(0, Integer.MAX_VALUE));
            checks.refuses(Checks.ARGUMENT, c, "0", () -> c.wind(0, 0));
        });
    }

    private static void orderOfTuning() {
        checks.test("4: tune, no such member ahead of a tone out of range", () -> {
            CricketCooperative c = View.withShares(1);
            checks.refuses(Checks.INDEX, c, "12", () -> c.tune(1, 12));
            checks.refuses(Checks.INDEX, c, "-1", () -> c.tune(-1, -1));
        });
    }

    private static void orderOfBuying() {
        checks.test("5: buyShares, no such member ahead of shares out of range", () -> {
            CricketCooperative c = View.withShares(1);
            checks.refuses(Checks.INDEX, c, "0", () -> c.buyShares(1, 0));
            checks.refuses(Checks.INDEX, c, "50", () -> c.buyShares(-1, 50));
        });
        checks.test("5: buyShares, no such member where an undone one had 50 shares", () -> {
            CricketCooperative c = View.withShares(1, 50);
            c.undo();
            checks.refuses(Checks.INDEX, c, "1", () -> c.buyShares(1, 1));
        });
        checks.test("5: buyShares, shares out of range ahead of more than 50 shares", () -> {
            CricketCooperative c = View.richMember(50, 300);
            checks.refuses(Checks.ARGUMENT, c, "50", () -> c.buyShares(0, 50));
            checks.refuses(Checks.ARGUMENT, c, "0", () -> c.buyShares(0, 0));
            checks.refuses(Checks.ARGUMENT, c, "far", () -> c.buyShares(0, Integer.MAX_VALUE));
        });
        checks.test("5: buyShares, shares out of range ahead of too few coins", () -> {
            CricketCooperative c = View.withShares(1);
            checks.refuses(Checks.ARGUMENT, c, "50", () -> c.buyShares(0, 50));
            checks.refuses(Checks.ARGUMENT, c, "0", () -> c.buyShares(0, 0));
        });
        checks.test("5: buyShares, more than 50 shares ahead of too few coins", () -> {
            CricketCooperative c = View.withShares(2, 50);
            checks.refuses(Checks.STATE, c, "49", () -> c.buyShares(0, 49));
            checks.refuses(Checks.STATE, c, "1", () -> c.buyShares(1, 1));
        });
    }

    private static void orderOfQueries() {
        checks.test("25: carriedTone, a tolerance out of range ahead of no such tone", () -> {
            CricketCooperative empty = new CricketCooperative();
            checks.refuses(Checks.ARGUMENT, empty, "7", () -> empty.carriedTone(7));
            checks.refuses(Checks.ARGUMENT, empty, "-1", () -> empty.carriedTone(-1));
        });
    }

    private static void orderOfRun() {
        checks.test("44: run, no program ahead of a command that fails", () -> {
            CricketCooperative c = View.withShares(1);
            View.type(c, "beats 0;wind 9 9;");
            checks.refuses(Checks.ARGUMENT, c, "run", c::run);
            checks.same("errorPosition", 17, c.errorPosition());
            checks.throwsExactly(Checks.NO_SUCH, "failedCommand", c::failedCommand);
        });
    }

    private static void unchanged(String name, Class<? extends RuntimeException> due,
            Probe.Recipe recipe, Probe.Call call) {
        checks.test(name + " refused changes nothing", () -> {
            String before = Probe.of(recipe);
            checks.same("all that calls can tell", before, Probe.of(() -> {
                CricketCooperative c = recipe.make();
                checks.throwsExactly(due, name, () -> call.on(c));
                return c;
            }));
        });
    }

    private static void refusedJoining() {
        unchanged("2: addMember, shares out of range,", Checks.ARGUMENT, Recipes::full,
                c -> c.addMember(51, 2, 0, 0));
        unchanged("2: addMember, a period out of range,", Checks.ARGUMENT, Recipes::full,
                c -> c.addMember(1, 1, 0, 0));
        unchanged("2: addMember, a phase out of range,", Checks.ARGUMENT, Recipes::full,
                c -> c.addMember(1, 2, 2, 0));
        unchanged("2: addMember, a tone out of range,", Checks.ARGUMENT, Recipes::full,
                c -> c.addMember(1, 2, 0, 12));
        unchanged("2: addMember, the ninth member,", Checks.STATE, Recipes::eightMembers,
                c -> c.addMember(1, 2, 0, 0));
    }

    private static void refusedMembers() {
        unchanged("3: wind, no such member,", Checks.INDEX, Recipes::full, c -> c.wind(4, 1));
        unchanged("3: wind, turns out of range,", Checks.ARGUMENT, Recipes::full,
                c -> c.wind(0, 0));
        unchanged("3: wind, more than 60 turns,", Checks.STATE, Recipes::full, c -> c.wind(0, 60));
        unchanged("4: tune, no such member,", Checks.INDEX, Recipes::full, c -> c.tune(4, 1));
        unchanged("4: tune, a tone out of range,", Checks.ARGUMENT, Recipes::full,
                c -> c.tune(0, 12));
    }

    private static void refusedBuying() {
        unchanged("5: buyShares, no such member,", Checks.INDEX, Recipes::full,
                c -> c.buyShares(4, 1));
        unchanged("5: buyShares, shares out of range,", Checks.ARGUMENT, Recipes::full,
                c -> c.buyShares(0, 0));
        unchanged("5: buyShares, more than 50 shares,", Checks.STATE, Recipes::full,
                c -> c.buyShares(0, 49));
        unchanged("5: buyShares, too few coins,", Checks.UNSUPPORTED, Recipes::full,
                c -> c.buyShares(3, 1));
    }

    private static void refusedChanges() {
        unchanged("6: passBeats, 0 beats,", Checks.ARGUMENT, Recipes::full, c -> c.passBeats(0));
        unchanged("6: passBeats, 61 beats,", Checks.ARGUMENT, Recipes::full, c -> c.passBeats(61));
        unchanged("7: endQuarter, no members,", Checks.STATE, Recipes::noMembers,
                CricketCooperative::endQuarter);
        unchanged("8: vote, a tone out of range,", Checks.ARGUMENT, Recipes::full,
                c -> c.vote(12, 6));
        unchanged("8: vote, a tolerance out of range,", Checks.ARGUMENT, Recipes::full,
                c -> c.vote(0, 7));
    }

    private static void refusedMemberQueries() {
        unchanged("10: shares", Checks.INDEX, Recipes::full, c -> c.shares(4));
        unchanged("11: spring", Checks.INDEX, Recipes::full, c -> c.spring(4));
        unchanged("12: tone", Checks.INDEX, Recipes::full, c -> c.tone(4));
        unchanged("13: purse", Checks.INDEX, Recipes::full, c -> c.purse(4));
        unchanged("14: dissents", Checks.INDEX, Recipes::full, c -> c.dissents(4));
        unchanged("15: interval, one", Checks.INDEX, Recipes::full, c -> c.interval(4, 0));
        unchanged("15: interval, the other", Checks.INDEX, Recipes::full, c -> c.interval(0, 4));
        unchanged("16: memberAtRank", Checks.NO_SUCH, Recipes::full, c -> c.memberAtRank(4));
    }

    private static void refusedBeatQueries() {
        unchanged("17: dueBeats", Checks.INDEX, Recipes::full, c -> c.dueBeats(4));
        unchanged("18: dueBeatsByDoubling", Checks.INDEX, Recipes::full,
                c -> c.dueBeatsByDoubling(4));
        unchanged("19: commonBeats, one", Checks.INDEX, Recipes::full, c -> c.commonBeats(4, 0));
        unchanged("19: commonBeats, the other", Checks.INDEX, Recipes::full,
                c -> c.commonBeats(0, 4));
        unchanged("20: beatsUntilChorus, no members,", Checks.NO_SUCH, Recipes::noMembers,
                CricketCooperative::beatsUntilChorus);
        unchanged("20: beatsUntilChorus, never,", Checks.NO_SUCH, Recipes::full,
                CricketCooperative::beatsUntilChorus);
        unchanged("21: earningsIn, -1 beats,", Checks.ARGUMENT, Recipes::full,
                c -> c.earningsIn(-1));
        unchanged("21: earningsIn, 61 beats,", Checks.ARGUMENT, Recipes::full,
                c -> c.earningsIn(61));
    }

    private static void refusedDividendQueries() {
        unchanged("22: dividend", Checks.INDEX, Recipes::full, c -> c.dividend(4));
        unchanged("23: dividendByCounting", Checks.INDEX, Recipes::full,
                c -> c.dividendByCounting(4));
    }

    private static void refusedVoteQueries() {
        unchanged("24: sharesInFavour, a tone", Checks.ARGUMENT, Recipes::full,
                c -> c.sharesInFavour(12, 6));
        unchanged("24: sharesInFavour, a tolerance", Checks.ARGUMENT, Recipes::full,
                c -> c.sharesInFavour(0, 7));
        unchanged("25: carriedTone, a tolerance", Checks.ARGUMENT, Recipes::full,
                c -> c.carriedTone(7));
        unchanged("25: carriedTone, no such tone,", Checks.NO_SUCH, Recipes::full,
                c -> c.carriedTone(0));
        unchanged("29: power", Checks.INDEX, Recipes::full, c -> c.power(4));
        unchanged("30: powerByTable", Checks.INDEX, Recipes::full, c -> c.powerByTable(4));
        unchanged("31: smallestMajority", Checks.NO_SUCH, Recipes::noMembers,
                CricketCooperative::smallestMajority);
    }

    private static void refusedTotals() {
        unchanged("39: spoiltBeat", Checks.INDEX, Recipes::full, c -> c.spoiltBeat(10));
        unchanged("40: meanPurse", Checks.ARITHMETIC, Recipes::noMembers,
                CricketCooperative::meanPurse);
        unchanged("41: powerShare", Checks.INDEX, Recipes::full, c -> c.powerShare(4));
    }

    private static void refusedTexts() {
        unchanged("43: append", Checks.STATE, Recipes::fullBuffer, c -> c.append('x'));
        unchanged("45: errorPosition", Checks.NO_SUCH, Recipes::noTexts,
                CricketCooperative::errorPosition);
        unchanged("46: failedCommand", Checks.NO_SUCH, Recipes::noTexts,
                CricketCooperative::failedCommand);
        unchanged("47: writeMember", Checks.INDEX, Recipes::full, c -> c.writeMember(4));
        unchanged("48: outputAt", Checks.INDEX, Recipes::full, c -> c.outputAt(99));
        unchanged("48: outputAt, an empty line,", Checks.INDEX, Recipes::noTexts,
                c -> c.outputAt(0));
    }

    private static void refusedUndo() {
        unchanged("49: undo", Checks.STATE, Recipes::nothingToUndo, CricketCooperative::undo);
        unchanged("51: restore", Checks.STATE, Recipes::neverSaved, CricketCooperative::restore);
    }

    /** The error position is 2 and the failed command 1. */
    private static CricketCooperative typed(String text) {
        CricketCooperative c = Recipes.noTexts();
        c.writeMember(1);
        Recipes.fails(c, "bux");
        Recipes.fails(c, "beats 1;beats 0");
        View.type(c, text);
        return c;
    }

    private static void refusedRun(String name, String text, Class<? extends RuntimeException> due,
            int position, int command) {
        checks.test(name, () -> {
            String before = Probe.withoutTyped(() -> typed(""));
            Probe.Recipe refused = () -> {
                CricketCooperative c = typed(text);
                checks.throwsExactly(due, "run of " + text, c::run);
                return c;
            };
            checks.same("errorPosition", position, refused.make().errorPosition());
            checks.same("failedCommand", command, refused.make().failedCommand());
            checks.same("append", 1, refused.make().append('x'));
            checks.same("all else that calls can tell", before, Probe.withoutTyped(refused));
        });
    }

    private static void refusedPrograms() {
        refusedRun("44: run of no program changes the buffer and the error position alone",
                "beats 9;vote 3 6;quarterly", Checks.ARGUMENT, 24, 1);
        refusedRun("44: run of a command that fails changes the buffer and the failed command alone",
                "beats 9;quarter;vote 3 6;join 1 2 0 0;wind 4 9;tune 5 9", Checks.UNSUPPORTED, 2, 5);
        refusedRun("44: run of a first command that fails changes those alone",
                "join 1 2 0 12", Checks.UNSUPPORTED, 2, 0);
    }
}
