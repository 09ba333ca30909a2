/** The boundary cases of promises 1 to 5, a test for each sentence: a new object and its members. */
public final class EdgeMembersTest {
    private static final Checks checks = new Checks();

    public static void main(String[] args) {
        newObject();
        newTexts();
        sharesOfJoining();
        periodOfJoining();
        phaseOfJoining();
        toneOfJoining();
        placeOfJoining();
        newMember();
        windingMember();
        windingTurns();
        windingSpring();
        tuning();
        buyingMember();
        buyingShares();
        buyingLimit();
        buyingCoins();
        checks.end();
    }

    private static void newObject() {
        CricketCooperative c = new CricketCooperative();
        checks.test("1: a new object has no members", () -> {
            checks.same("members", 0, c.memberCount());
            checks.throwsExactly(Checks.INDEX, "shares", () -> c.shares(0));
        });
        checks.test("1: a new object is at beat 0", () -> checks.same("beat", 0, c.beat()));
        checks.test("1, Terms, beats: a new object has a surplus of 0 coins", () -> {
            checks.same("surplus", 0, c.surplus());
            checks.same("coins", 0, c.coinTotal());
            checks.same("earned", 0, c.coinsByAccounts());
        });
        checks.test("1, Terms, votes: a new object has the house tone 0",
                () -> checks.same("house tone", 0, c.houseTone()));
        checks.test("1: a new object has no quarters, chirps or spoilt beats", () -> {
            checks.same("quarters", 0, c.quarters());
            checks.same("chirps", 0, c.chirps());
            checks.throwsExactly(Checks.INDEX, "spoiltBeat", () -> c.spoiltBeat(0));
        });
    }

    private static void newTexts() {
        CricketCooperative c = new CricketCooperative();
        checks.test("1, 48: a new object has an empty output line",
                () -> checks.throwsExactly(Checks.INDEX, "outputAt", () -> c.outputAt(0)));
        checks.test("1, 45, 46: a new object has no error position and no failed command", () -> {
            checks.throwsExactly(Checks.NO_SUCH, "errorPosition", c::errorPosition);
            checks.throwsExactly(Checks.NO_SUCH, "failedCommand", c::failedCommand);
        });
        checks.test("1, 49, 51: a new object has nothing to undo and no saved state", () -> {
            checks.throwsExactly(Checks.STATE, "undo", c::undo);
            checks.throwsExactly(Checks.STATE, "restore", c::restore);
        });
        checks.test("1, 43: a new object has an empty text buffer",
                () -> checks.same("append", 1, c.append('x')));
    }

    private static void sharesOfJoining() {
        CricketCooperative c = new CricketCooperative();
        checks.test("2: addMember, 0 shares are too few", () -> checks.refuses(Checks.ARGUMENT, c,
                "addMember", () -> c.addMember(0, 2, 0, 0)));
        checks.test("2: addMember, -1 shares are too few", () -> checks.refuses(Checks.ARGUMENT, c,
                "addMember", () -> c.addMember(-1, 2, 0, 0)));
        checks.test("2: addMember, 51 shares are too many", () -> checks.refuses(Checks.ARGUMENT, c,
                "addMember", () -> c.addMember(51, 2, 0, 0)));
        checks.test("2: addMember, shares far out of range", () -> checks.refusesEach(Checks.ARGUMENT,
                c, "shares", Checks.FAR, shares -> c.addMember(shares, 2, 0, 0)));
        checks.test("2: addMember, 1 share is enough", () -> {
            checks.same("addMember", 0, c.addMember(1, 2, 0, 0));
            checks.same("shares", 1, c.shares(0));
        });
        checks.test("2: addMember, 50 shares are not too many", () -> {
            checks.same("addMember", 1, c.addMember(50, 2, 0, 0));
            checks.same("shares", 50, c.shares(1));
        });
    }

    private static void periodOfJoining() {
        CricketCooperative c = new CricketCooperative();
        checks.test("2: addMember, a period of 1 is too short", () -> checks.refuses(Checks.ARGUMENT,
                c, "addMember", () -> c.addMember(1, 1, 0, 0)));
        checks.test("2: addMember, a period of 0 is too short", () -> checks.refuses(Checks.ARGUMENT,
                c, "addMember", () -> c.addMember(1, 0, 0, 0)));
        checks.test("2: addMember, a period below 0 is too short", () -> checks.refuses(
                Checks.ARGUMENT, c, "addMember", () -> c.addMember(1, -2, 0, 0)));
        checks.test("2: addMember, a period of 13 is too long", () -> checks.refuses(Checks.ARGUMENT,
                c, "addMember", () -> c.addMember(1, 13, 0, 0)));
        checks.test("2: addMember, periods far out of range", () -> checks.refusesEach(
                Checks.ARGUMENT, c, "period", Checks.FAR, period -> c.addMember(1, period, 0, 0)));
        checks.test("2: addMember, a period of 2 is long enough", () -> {
            checks.same("addMember", 0, c.addMember(1, 2, 0, 0));
            checks.same("line", "1%2+0^0~0$0", View.line(c, c.writeMember(0)));
        });
        checks.test("2: addMember, a period of 12 is not too long", () -> {
            checks.same("addMember", 1, c.addMember(1, 12, 0, 0));
            checks.same("line", "1%12+0^0~0$0", View.line(c, c.writeMember(1)));
        });
    }

    private static void phaseOfJoining() {
        checks.test("2: addMember, a phase of -1 is too small", () -> eachPeriod(
                period -> refusedPhase(period, -1)));
        checks.test("2: addMember, a phase of 0 is not too small", () -> eachPeriod(
                period -> acceptedPhase(period, 0)));
        checks.test("2: addMember, a phase less than the period by 1 is not too great",
                () -> eachPeriod(period -> acceptedPhase(period, period - 1)));
        checks.test("2: addMember, a phase that is the period is too great", () -> eachPeriod(
                period -> refusedPhase(period, period)));
        checks.test("2: addMember, phases far out of range", () -> {
            for (int phase : Checks.FAR) {
                refusedPhase(12, phase);
            }
        });
    }

    private static void eachPeriod(Checks.CallWith call) {
        for (int period = 2; period <= 12; period++) {
            call.on(period);
        }
    }

    private static void refusedPhase(int period, int phase) {
        CricketCooperative c = new CricketCooperative();
        checks.refuses(Checks.ARGUMENT, c, "period " + period + ", phase " + phase,
                () -> c.addMember(1, period, phase, 0));
    }

    private static void acceptedPhase(int period, int phase) {
        CricketCooperative c = new CricketCooperative();
        checks.same("addMember", 0, c.addMember(1, period, phase, 0));
        checks.same("line", "1%" + period + "+" + phase + "^0~0$0",
                View.line(c, c.writeMember(0)));
    }

    private static void toneOfJoining() {
        CricketCooperative c = new CricketCooperative();
        checks.test("2: addMember, a tone of -1 is too low", () -> checks.refuses(Checks.ARGUMENT, c,
                "addMember", () -> c.addMember(1, 2, 0, -1)));
        checks.test("2: addMember, a tone of 12 is too high", () -> checks.refuses(Checks.ARGUMENT, c,
                "addMember", () -> c.addMember(1, 2, 0, 12)));
        checks.test("2: addMember, tones far out of range", () -> checks.refusesEach(Checks.ARGUMENT,
                c, "tone", Checks.FAR, tone -> c.addMember(1, 2, 0, tone)));
        checks.test("2: addMember, a tone of 0 is not too low", () -> {
            checks.same("addMember", 0, c.addMember(1, 2, 0, 0));
            checks.same("tone", 0, c.tone(0));
        });
        checks.test("2: addMember, a tone of 11 is not too high", () -> {
            checks.same("addMember", 1, c.addMember(1, 2, 0, 11));
            checks.same("tone", 11, c.tone(1));
        });
    }

    private static void placeOfJoining() {
        CricketCooperative c = new CricketCooperative();
        checks.test("2, Terms, members: the indices are 0 to m - 1", () -> {
            for (int member = 0; member < 7; member++) {
                checks.same("addMember", member, c.addMember(1 + member, 2, 0, 0));
            }
        });
        checks.test("2: addMember, the eighth member has its place", () -> {
            checks.same("addMember", 7, c.addMember(8, 2, 0, 0));
            checks.same("members", 8, c.memberCount());
            checks.same("shares", 8, c.shares(7));
        });
        checks.test("2: addMember, the ninth member has none", () -> checks.refuses(Checks.STATE, c,
                "addMember", () -> c.addMember(9, 2, 0, 0)));
        checks.test("2: addMember, the place of an undone eighth member is free again", () -> {
            c.undo();
            checks.same("addMember", 7, c.addMember(8, 2, 0, 0));
            checks.refuses(Checks.STATE, c, "addMember", () -> c.addMember(9, 2, 0, 0));
        });
    }

    /** A member with a spring, coins and a dissent, whose joining is then undone. */
    private static CricketCooperative afterAnotherMember() {
        CricketCooperative c = View.withTones(0, 6);
        c.addMember(9, 2, 0, 3);
        c.wind(2, 60);
        c.passBeats(60);
        c.endQuarter();
        c.vote(0, 6);
        c.vote(9, 3);
        checks.same("purse", 9, c.purse(2));
        for (int call = 0; call < 6; call++) {
            c.undo();
        }
        checks.same("members", 2, c.memberCount());
        return c;
    }

    private static void newMember() {
        checks.test("2, Terms, members: the spring has initially 0 turns", () -> {
            CricketCooperative c = afterAnotherMember();
            c.addMember(1, 2, 0, 0);
            checks.same("spring", 0, c.spring(2));
        });
        checks.test("2, Terms, members: the purse is initially empty", () -> {
            CricketCooperative c = afterAnotherMember();
            c.addMember(1, 2, 0, 0);
            checks.same("purse", 0, c.purse(2));
        });
        checks.test("2, Terms, members: the dissents are initially 0", () -> {
            CricketCooperative c = View.withTones(0, 0, 0);
            c.save();
            c.addMember(1, 2, 0, 6);
            c.vote(0, 0);
            checks.same("dissents", 1, c.dissents(3));
            c.restore();
            c.addMember(1, 2, 0, 6);
            checks.same("dissents", 0, c.dissents(3));
        });
    }

    private static void windingMember() {
        CricketCooperative c = View.withShares(1, 2);
        CricketCooperative empty = new CricketCooperative();
        checks.test("3: wind, no member -1", () -> checks.refuses(Checks.INDEX, c, "wind",
                () -> c.wind(-1, 1)));
        checks.test("3: wind, no member m", () -> checks.refuses(Checks.INDEX, c, "wind",
                () -> c.wind(2, 1)));
        checks.test("3: wind, no member without members", () -> checks.refuses(Checks.INDEX, empty,
                "wind", () -> empty.wind(0, 1)));
        checks.test("3: wind, no members far away", () -> checks.refusesEach(Checks.INDEX, c, "member",
                Checks.NOBODY, member -> c.wind(member, 1)));
        checks.test("3: wind, the members 0 and m - 1", () -> {
            checks.same("wind", 4, c.wind(0, 4));
            checks.same("wind", 5, c.wind(1, 5));
        });
    }

    private static void windingTurns() {
        CricketCooperative c = View.withShares(1, 2);
        checks.test("3: wind, 0 turns are too few", () -> checks.refuses(Checks.ARGUMENT, c, "wind",
                () -> c.wind(0, 0)));
        checks.test("3: wind, -1 turns are too few", () -> checks.refuses(Checks.ARGUMENT, c, "wind",
                () -> c.wind(0, -1)));
        checks.test("3: wind, 61 turns are too many", () -> checks.refuses(Checks.ARGUMENT, c, "wind",
                () -> c.wind(0, 61)));
        checks.test("3: wind, turns far out of range", () -> checks.refusesEach(Checks.ARGUMENT, c,
                "turns", Checks.FAR, turns -> c.wind(0, turns)));
        checks.test("3: wind, 1 turn is enough", () -> checks.same("wind", 1, c.wind(0, 1)));
        checks.test("3: wind, 60 turns are not too many",
                () -> checks.same("wind", 60, c.wind(1, 60)));
    }

    private static void windingSpring() {
        checks.test("3: wind, a spring that would have exactly 60 turns", () -> {
            CricketCooperative c = View.withShares(1);
            c.wind(0, 59);
            checks.same("wind", 60, c.wind(0, 1));
            checks.same("spring", 60, c.spring(0));
        });
        checks.test("3: wind, a spring that would have 61 turns", () -> {
            CricketCooperative c = View.withShares(1);
            c.wind(0, 59);
            checks.refuses(Checks.STATE, c, "wind", () -> c.wind(0, 2));
        });
        checks.test("3: wind, 60 turns more for a spring of 1 turn", () -> {
            CricketCooperative c = View.withShares(1);
            c.wind(0, 1);
            checks.refuses(Checks.STATE, c, "wind", () -> c.wind(0, 60));
        });
        checks.test("3: wind, a full spring", () -> {
            CricketCooperative c = View.withShares(1);
            c.wind(0, 60);
            checks.refuses(Checks.STATE, c, "wind", () -> c.wind(0, 1));
        });
        checks.test("3: wind, a spring that has run down can be wound fully again", () -> {
            CricketCooperative c = View.withShares(1);
            c.wind(0, 60);
            c.passBeats(60);
            checks.same("wind", 60, c.wind(0, 30));
        });
    }

    private static void tuning() {
        CricketCooperative c = View.withTones(3, 5);
        CricketCooperative empty = new CricketCooperative();
        checks.test("4: tune, no member -1", () -> checks.refuses(Checks.INDEX, c, "tune",
                () -> c.tune(-1, 0)));
        checks.test("4: tune, no member m", () -> checks.refuses(Checks.INDEX, c, "tune",
                () -> c.tune(2, 0)));
        checks.test("4: tune, no member without members", () -> checks.refuses(Checks.INDEX, empty,
                "tune", () -> empty.tune(0, 0)));
        checks.test("4: tune, no members far away", () -> checks.refusesEach(Checks.INDEX, c, "member",
                Checks.NOBODY, member -> c.tune(member, 0)));
        checks.test("4: tune, the tone -1 is too low", () -> checks.refuses(Checks.ARGUMENT, c, "tune",
                () -> c.tune(0, -1)));
        checks.test("4: tune, the tone 12 is too high", () -> checks.refuses(Checks.ARGUMENT, c,
                "tune", () -> c.tune(0, 12)));
        checks.test("4: tune, tones far out of range", () -> checks.refusesEach(Checks.ARGUMENT, c,
                "tone", Checks.FAR, tone -> c.tune(0, tone)));
        checks.test("4: tune, the tone 0 is not too low", () -> {
            checks.same("tune", 3, c.tune(0, 0));
            checks.same("tone", 0, c.tone(0));
        });
        checks.test("4: tune, the tone 11 is not too high", () -> {
            checks.same("tune of m - 1", 5, c.tune(1, 11));
            checks.same("tone", 11, c.tone(1));
        });
        checks.test("4: tune, the tone that the member has already", () -> {
            checks.same("tune", 11, c.tune(1, 11));
            checks.same("tone", 11, c.tone(1));
        });
    }

    private static void buyingMember() {
        CricketCooperative c = View.richMember(1, 10);
        CricketCooperative empty = new CricketCooperative();
        checks.test("5: buyShares, no member -1", () -> checks.refuses(Checks.INDEX, c, "buyShares",
                () -> c.buyShares(-1, 1)));
        checks.test("5: buyShares, no member m", () -> checks.refuses(Checks.INDEX, c, "buyShares",
                () -> c.buyShares(1, 1)));
        checks.test("5: buyShares, no member without members", () -> checks.refuses(Checks.INDEX,
                empty, "buyShares", () -> empty.buyShares(0, 1)));
        checks.test("5: buyShares, no members far away", () -> checks.refusesEach(Checks.INDEX, c,
                "member", Checks.NOBODY, member -> c.buyShares(member, 1)));
        checks.test("5: buyShares, the last member", () -> {
            CricketCooperative eight = View.withShares(1, 1, 1, 1, 1, 1, 1, 1);
            eight.wind(7, 40);
            eight.passBeats(60);
            eight.passBeats(20);
            eight.endQuarter();
            checks.same("buyShares", 2, eight.buyShares(7, 1));
        });
    }

    private static void buyingShares() {
        CricketCooperative c = View.richMember(1, 250);
        checks.test("5: buyShares, 0 shares are too few", () -> checks.refuses(Checks.ARGUMENT, c,
                "buyShares", () -> c.buyShares(0, 0)));
        checks.test("5: buyShares, -1 shares are too few", () -> checks.refuses(Checks.ARGUMENT, c,
                "buyShares", () -> c.buyShares(0, -1)));
        checks.test("5: buyShares, 50 shares are too many", () -> checks.refuses(Checks.ARGUMENT, c,
                "buyShares", () -> c.buyShares(0, 50)));
        checks.test("5: buyShares, shares far out of range", () -> checks.refusesEach(Checks.ARGUMENT,
                c, "shares", Checks.FAR, shares -> c.buyShares(0, shares)));
        checks.test("5: buyShares, 49 shares are not too many", () -> {
            checks.same("buyShares", 50, c.buyShares(0, 49));
            checks.same("purse", 5, c.purse(0));
            checks.same("surplus", 245, c.surplus());
        });
        checks.test("5: buyShares, 1 share is enough", () -> {
            CricketCooperative one = View.richMember(1, 250);
            checks.same("buyShares", 2, one.buyShares(0, 1));
            checks.same("purse", 245, one.purse(0));
            checks.same("surplus", 5, one.surplus());
        });
    }

    private static void buyingLimit() {
        CricketCooperative c = View.richMember(48, 100);
        checks.test("5: buyShares, the member would have 51 shares", () -> checks.refuses(Checks.STATE,
                c, "buyShares", () -> c.buyShares(0, 3)));
        checks.test("5: buyShares, the member would have 97 shares", () -> checks.refuses(Checks.STATE,
                c, "buyShares", () -> c.buyShares(0, 49)));
        checks.test("5: buyShares, the member has exactly 50 shares afterwards",
                () -> checks.same("buyShares", 50, c.buyShares(0, 2)));
        checks.test("5: buyShares, the member has 50 shares already", () -> checks.refuses(
                Checks.STATE, c, "buyShares", () -> c.buyShares(0, 1)));
    }

    private static void buyingCoins() {
        checks.test("5: buyShares, 4 coins are too few for 1 share", () -> {
            CricketCooperative c = View.richMember(1, 4);
            checks.refuses(Checks.UNSUPPORTED, c, "buyShares", () -> c.buyShares(0, 1));
        });
        checks.test("5: buyShares, 5 coins are enough for 1 share", () -> {
            CricketCooperative c = View.richMember(1, 5);
            checks.same("buyShares", 2, c.buyShares(0, 1));
            checks.same("purse", 0, c.purse(0));
        });
        checks.test("5: buyShares, 244 coins are too few for 49 shares", () -> {
            CricketCooperative c = View.richMember(1, 244);
            checks.refuses(Checks.UNSUPPORTED, c, "buyShares", () -> c.buyShares(0, 49));
        });
        checks.test("5: buyShares, 245 coins are enough for 49 shares", () -> {
            CricketCooperative c = View.richMember(1, 245);
            checks.same("buyShares", 50, c.buyShares(0, 49));
            checks.same("purse", 0, c.purse(0));
        });
        checks.test("5: buyShares, an empty purse", () -> {
            CricketCooperative c = View.withShares(1);
            checks.refuses(Checks.UNSUPPORTED, c, "buyShares", () -> c.buyShares(0, 1));
        });
        checks.test("5: buyShares, the coins come into a surplus that is there already", () -> {
            CricketCooperative c = View.richMember(1, 12);
            c.wind(0, 3);
            c.passBeats(6);
            checks.same("surplus", 3, c.surplus());
            c.buyShares(0, 2);
            checks.same("surplus", 13, c.surplus());
            checks.same("purse", 2, c.purse(0));
        });
        checks.test("5: buyShares, the surplus pays for no shares", () -> {
            CricketCooperative c = View.richMember(1, 4);
            c.wind(0, 9);
            c.passBeats(18);
            checks.refuses(Checks.UNSUPPORTED, c, "buyShares", () -> c.buyShares(0, 1));
        });
    }
}
