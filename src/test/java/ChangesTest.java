import java.util.NoSuchElementException;

/** Promises 1 to 8: a new object and the changing methods. */
public final class ChangesTest {
    private static final Checks checks = new Checks();
    private static final Class<IndexOutOfBoundsException> INDEX = IndexOutOfBoundsException.class;
    private static final Class<IllegalArgumentException> ARGUMENT = IllegalArgumentException.class;
    private static final Class<IllegalStateException> STATE = IllegalStateException.class;
    private static final Class<UnsupportedOperationException> UNSUPPORTED =
            UnsupportedOperationException.class;

    public static void main(String[] args) {
        checks.test("1: a new object", ChangesTest::newObject);
        checks.test("2: addMember adds", ChangesTest::joining);
        checks.test("2: addMember, numbers out of range", ChangesTest::joiningOutOfRange);
        checks.test("2: addMember, the ninth member", ChangesTest::ninthMember);
        checks.test("3: wind", ChangesTest::winding);
        checks.test("3: wind, exceptions and their order", ChangesTest::windingRefused);
        checks.test("4: tune", ChangesTest::tuning);
        checks.test("4: tune, exceptions and their order", ChangesTest::tuningRefused);
        checks.test("5: buyShares", ChangesTest::buying);
        checks.test("5: buyShares, from 1 to 50 shares at once", ChangesTest::buyingMost);
        checks.test("5: buyShares, exceptions and their order", ChangesTest::buyingRefused);
        checks.test("6: passBeats, who is due", ChangesTest::dueMembersChirp);
        checks.test("6: passBeats, springs run down", ChangesTest::springsRunDown);
        checks.test("6: passBeats, tones that clash", ChangesTest::clashes);
        checks.test("6: passBeats, a spoilt beat", ChangesTest::spoiltBeat);
        checks.test("6: passBeats, beats out of range", ChangesTest::beatsOutOfRange);
        checks.test("7: endQuarter pays by shares", ChangesTest::quarterPays);
        checks.test("7: endQuarter, the greatest remainders", ChangesTest::remainders);
        checks.test("7: endQuarter, equal remainders", ChangesTest::equalRemainders);
        checks.test("7: endQuarter without coins or members", ChangesTest::quarterOfNothing);
        checks.test("8: vote, a carried motion", ChangesTest::carried);
        checks.test("8: vote, other motions change nothing", ChangesTest::notCarried);
        checks.test("8: vote, the quota is more than half", ChangesTest::halfIsTooFew);
        checks.test("8: vote, out of range", ChangesTest::motionOutOfRange);
        checks.end();
    }

    private static void newObject() {
        CricketCooperative c = new CricketCooperative();
        checks.same("members", 0, c.memberCount());
        checks.same("view", "beat 0 surplus 0 house 0 quarters 0 coins 0 earned 0 chirps 0 spoilt ",
                View.of(c));
        checks.throwsExactly(STATE, "undo", c::undo);
        checks.throwsExactly(STATE, "restore", c::restore);
        checks.throwsExactly(NoSuchElementException.class, "errorPosition", c::errorPosition);
        checks.throwsExactly(NoSuchElementException.class, "failedCommand", c::failedCommand);
        checks.throwsExactly(INDEX, "outputAt", () -> c.outputAt(0));
        checks.same("append", 1, c.append('q'));
    }

    private static void joining() {
        CricketCooperative c = new CricketCooperative();
        checks.same("addMember", 0, c.addMember(1, 2, 0, 0));
        checks.same("addMember", 1, c.addMember(50, 12, 11, 11));
        checks.same("addMember", 2, c.addMember(7, 5, 3, 4));
        checks.same("members", 3, c.memberCount());
        checks.same("length", 11, c.writeMember(0));
        checks.same("line", "1%2+0^0~0$0", View.line(c, 11));
        checks.same("length", 15, c.writeMember(1));
        checks.same("line", "50%12+11^11~0$0", View.line(c, 15));
        checks.same("length", 11, c.writeMember(2));
        checks.same("line", "7%5+3^4~0$0", View.line(c, 11));
        checks.same("dissents", 0, c.dissents(2));
    }

    private static void joiningOutOfRange() {
        int[][] wrong = {
            {0, 2, 0, 0}, {-1, 2, 0, 0}, {51, 2, 0, 0}, {Integer.MAX_VALUE, 2, 0, 0},
            {1, 1, 0, 0}, {1, 0, 0, 0}, {1, -2, 0, 0}, {1, 13, 0, 0}, {1, Integer.MIN_VALUE, 0, 0},
            {1, 2, -1, 0}, {1, 2, 2, 0}, {1, 12, 12, 0}, {1, 5, 5, 0}, {1, 5, Integer.MIN_VALUE, 0},
            {1, 2, 0, -1}, {1, 2, 0, 12}, {1, 2, 0, Integer.MAX_VALUE}
        };
        CricketCooperative c = new CricketCooperative();
        for (int[] row : wrong) {
            checks.refuses(ARGUMENT, c, "addMember " + row[0] + " " + row[1] + " " + row[2] + " "
                    + row[3], () -> c.addMember(row[0], row[1], row[2], row[3]));
        }
        checks.same("addMember", 0, c.addMember(1, 2, 1, 11));
    }

    private static void ninthMember() {
        CricketCooperative c = View.withShares(1, 2, 3, 4, 5, 6, 7, 8);
        checks.same("members", 8, c.memberCount());
        checks.refuses(STATE, c, "the ninth member", () -> c.addMember(1, 2, 0, 0));
        checks.refuses(ARGUMENT, c, "the ninth, out of range", () -> c.addMember(1, 2, 2, 0));
        checks.same("undo", 7, c.undo());
        checks.same("addMember", 7, c.addMember(9, 3, 2, 1));
        checks.same("shares", 9, c.shares(7));
    }

    private static void winding() {
        CricketCooperative c = View.withShares(1, 2);
        checks.same("wind", 60, c.wind(0, 60));
        checks.same("wind", 1, c.wind(1, 1));
        checks.same("wind", 31, c.wind(1, 30));
        checks.same("wind", 60, c.wind(1, 29));
        checks.same("spring", 60, c.spring(0));
        checks.same("spring", 60, c.spring(1));
    }

    private static void windingRefused() {
        CricketCooperative c = View.withShares(1, 2);
        c.wind(0, 40);
        checks.refuses(INDEX, c, "wind -1", () -> c.wind(-1, 1));
        checks.refuses(INDEX, c, "wind 2", () -> c.wind(2, 1));
        checks.refuses(INDEX, c, "wind 8", () -> c.wind(8, 1));
        checks.refuses(INDEX, c, "wind 2 by 0", () -> c.wind(2, 0));
        checks.refuses(ARGUMENT, c, "wind by 0", () -> c.wind(1, 0));
        checks.refuses(ARGUMENT, c, "wind by -1", () -> c.wind(0, -1));
        checks.refuses(ARGUMENT, c, "wind by 61", () -> c.wind(0, 61));
        checks.refuses(ARGUMENT, c, "wind by far", () -> c.wind(0, Integer.MAX_VALUE));
        checks.refuses(STATE, c, "wind to 61", () -> c.wind(0, 21));
        checks.same("wind to 60", 60, c.wind(0, 20));
        checks.refuses(STATE, c, "wind a full spring", () -> c.wind(0, 1));
    }

    private static void tuning() {
        CricketCooperative c = View.withTones(3, 5);
        checks.same("tune", 3, c.tune(0, 11));
        checks.same("tune", 11, c.tune(0, 0));
        checks.same("tune", 0, c.tune(0, 0));
        checks.same("tone", 0, c.tone(0));
        checks.same("tone of the other", 5, c.tone(1));
    }

    private static void tuningRefused() {
        CricketCooperative c = View.withTones(3, 5);
        checks.refuses(INDEX, c, "tune -1", () -> c.tune(-1, 0));
        checks.refuses(INDEX, c, "tune 2", () -> c.tune(2, 0));
        checks.refuses(INDEX, c, "tune 2 to 12", () -> c.tune(2, 12));
        checks.refuses(ARGUMENT, c, "tune to -1", () -> c.tune(0, -1));
        checks.refuses(ARGUMENT, c, "tune to 12", () -> c.tune(0, 12));
    }

    private static void buying() {
        CricketCooperative c = View.richMember(10, 30);
        checks.same("purse", 30, c.purse(0));
        checks.same("buyShares", 11, c.buyShares(0, 1));
        checks.same("purse", 25, c.purse(0));
        checks.same("surplus", 5, c.surplus());
        checks.same("buyShares", 16, c.buyShares(0, 5));
        checks.same("shares", 16, c.shares(0));
        checks.same("purse", 0, c.purse(0));
        checks.same("surplus", 30, c.surplus());
        checks.same("coins", 30, c.coinTotal());
        checks.same("accounts", 30, c.coinsByAccounts());
    }

    private static void buyingMost() {
        CricketCooperative c = View.richMember(1, 245);
        checks.same("buyShares", 50, c.buyShares(0, 49));
        checks.same("purse", 0, c.purse(0));
        checks.same("surplus", 245, c.surplus());
    }

    private static void buyingRefused() {
        CricketCooperative c = View.richMember(47, 14);
        checks.refuses(INDEX, c, "buy -1", () -> c.buyShares(-1, 1));
        checks.refuses(INDEX, c, "buy 1", () -> c.buyShares(1, 1));
        checks.refuses(INDEX, c, "buy 1 no shares", () -> c.buyShares(1, 0));
        checks.refuses(ARGUMENT, c, "buy 0 shares", () -> c.buyShares(0, 0));
        checks.refuses(ARGUMENT, c, "buy -1 shares", () -> c.buyShares(0, -1));
        checks.refuses(ARGUMENT, c, "buy 50 shares", () -> c.buyShares(0, 50));
        checks.refuses(ARGUMENT, c, "buy all", () -> c.buyShares(0, Integer.MAX_VALUE));
        checks.refuses(STATE, c, "buy to 51", () -> c.buyShares(0, 4));
        checks.refuses(STATE, c, "buy 49", () -> c.buyShares(0, 49));
        checks.refuses(UNSUPPORTED, c, "buy for 15 coins", () -> c.buyShares(0, 3));
        checks.same("buy for 10 coins", 49, c.buyShares(0, 2));
        checks.refuses(UNSUPPORTED, c, "buy with 4 coins", () -> c.buyShares(0, 1));
    }

    private static void dueMembersChirp() {
        CricketCooperative c = new CricketCooperative();
        c.addMember(1, 3, 0, 0);
        c.addMember(1, 4, 1, 0);
        c.addMember(1, 12, 11, 0);
        for (int member = 0; member < 3; member++) {
            c.wind(member, 60);
        }
        int[] due = {1, 0, 1, 0, 1, 1, 0, 0, 2, 0, 1, 1, 1, 0, 1, 0, 1, 1};
        for (int index = 0; index < due.length; index++) {
            checks.same("coins in beat " + (index + 1), due[index], c.passBeats(1));
        }
        checks.same("beat", 18, c.beat());
        checks.same("surplus", 12, c.surplus());
        checks.same("chirps", 12, c.chirps());
        checks.same("springs", "54 55 59", c.spring(0) + " " + c.spring(1) + " " + c.spring(2));
        checks.same("60 beats", 20 + 15 + 5, c.passBeats(60));
        checks.same("beat", 78, c.beat());
    }

    private static void springsRunDown() {
        CricketCooperative c = View.withShares(1, 1);
        checks.same("no spring", 0, c.passBeats(4));
        c.wind(0, 1);
        c.wind(1, 3);
        checks.same("coins", 4, c.passBeats(20));
        checks.same("spring", 0, c.spring(0));
        checks.same("spring", 0, c.spring(1));
        checks.same("chirps", 4, c.chirps());
    }

    private static void clashes() {
        for (int one = 0; one < 12; one++) {
            for (int other = 0; other < 12; other++) {
                CricketCooperative c = View.withTones(one, other);
                c.wind(0, 5);
                c.wind(1, 5);
                int steps = Math.min((one - other + 12) % 12, (other - one + 12) % 12);
                boolean clash = steps == 1 || steps == 6;
                checks.same("tones " + one + " and " + other, clash ? 0 : 2, c.passBeats(2));
                checks.same("chirps", 2, c.chirps());
            }
        }
    }

    private static void spoiltBeat() {
        CricketCooperative c = new CricketCooperative();
        c.addMember(1, 2, 0, 4);
        c.addMember(1, 3, 0, 10);
        c.addMember(1, 6, 0, 4);
        c.addMember(1, 6, 0, 5);
        c.wind(0, 10);
        c.wind(1, 10);
        c.wind(2, 10);
        checks.same("coins", 3, c.passBeats(5));
        checks.same("coins of the spoilt beat", 0, c.passBeats(1));
        checks.same("spoilt", "6 ", View.spoiltBeats(c));
        checks.same("surplus", 3, c.surplus());
        checks.same("chirps", 6, c.chirps());
        checks.same("springs", "7 8 9 0", c.spring(0) + " " + c.spring(1) + " " + c.spring(2) + " "
                + c.spring(3));
        checks.same("coins by accounts", 3, c.coinsByAccounts());
    }

    private static void beatsOutOfRange() {
        CricketCooperative c = View.withShares(1);
        c.wind(0, 60);
        int[] wrong = {0, -1, 61, Integer.MIN_VALUE, Integer.MAX_VALUE};
        for (int beats : wrong) {
            checks.refuses(ARGUMENT, c, "passBeats " + beats, () -> c.passBeats(beats));
        }
        checks.same("1 beat", 0, c.passBeats(1));
        checks.same("60 beats", 30, c.passBeats(60));
    }

    /** The member of index 0 earns all the coins. */
    private static CricketCooperative withSurplus(int coins, int... shares) {
        CricketCooperative c = View.withShares(shares);
        c.wind(0, coins);
        c.passBeats(60);
        c.passBeats(60);
        checks.same("surplus", coins, c.surplus());
        return c;
    }

    private static String purses(CricketCooperative c) {
        StringBuilder text = new StringBuilder();
        for (int member = 0; member < c.memberCount(); member++) {
            text.append(c.purse(member)).append(' ');
        }
        return text.toString();
    }

    private static void quarterPays() {
        CricketCooperative c = withSurplus(60, 10, 20, 30);
        checks.same("endQuarter", 60, c.endQuarter());
        checks.same("purses", "10 20 30 ", purses(c));
        checks.same("surplus", 0, c.surplus());
        checks.same("quarters", 1, c.quarters());
        checks.same("beat", 120, c.beat());
        c.wind(2, 6);
        c.passBeats(12);
        checks.same("endQuarter", 6, c.endQuarter());
        checks.same("purses", "11 22 33 ", purses(c));
        checks.same("quarters", 2, c.quarters());
    }

    private static void remainders() {
        // 10 coins by 17 shares: 30, 60, 80 by 17 are 1 and 13, 3 and 9, 4 and 12
        CricketCooperative c = withSurplus(10, 3, 6, 8);
        checks.same("endQuarter", 10, c.endQuarter());
        checks.same("purses", "2 3 5 ", purses(c));
        // 8 coins by 7 shares: 8, 16, 32 by 7 are 1 and 1, 2 and 2, 4 and 4
        c = withSurplus(8, 1, 2, 4);
        checks.same("endQuarter", 8, c.endQuarter());
        checks.same("purses", "1 2 5 ", purses(c));
    }

    private static void equalRemainders() {
        CricketCooperative c = withSurplus(5, 7, 7, 7);
        checks.same("endQuarter", 5, c.endQuarter());
        checks.same("purses", "2 2 1 ", purses(c));
        // 7 coins by 8 shares: 7, 14, 14, 21 by 8 are 0 and 7, 1 and 6, 1 and 6, 2 and 5
        c = withSurplus(7, 1, 2, 2, 3);
        checks.same("endQuarter", 7, c.endQuarter());
        checks.same("purses", "1 2 2 2 ", purses(c));
        c = withSurplus(1, 5, 5, 5, 5, 5, 5, 5, 5);
        checks.same("endQuarter", 1, c.endQuarter());
        checks.same("purses", "1 0 0 0 0 0 0 0 ", purses(c));
        c = withSurplus(15, 5, 5, 5, 5, 5, 5, 5, 5);
        checks.same("endQuarter", 15, c.endQuarter());
        checks.same("purses", "2 2 2 2 2 2 2 1 ", purses(c));
    }

    private static void quarterOfNothing() {
        CricketCooperative c = new CricketCooperative();
        c.passBeats(7);
        checks.refuses(STATE, c, "endQuarter", c::endQuarter);
        c.addMember(1, 2, 0, 0);
        checks.same("endQuarter", 0, c.endQuarter());
        checks.same("quarters", 1, c.quarters());
        checks.same("purse", 0, c.purse(0));
    }

    private static String dissents(CricketCooperative c) {
        StringBuilder text = new StringBuilder();
        for (int member = 0; member < c.memberCount(); member++) {
            text.append(c.dissents(member)).append(' ');
        }
        return text.toString();
    }

    private static void carried() {
        CricketCooperative c = View.withTones(0, 2, 11, 6);
        checks.same("vote", true, c.vote(1, 2));
        checks.same("house tone", 1, c.houseTone());
        checks.same("dissents", "0 0 0 1 ", dissents(c));
        checks.same("vote", true, c.vote(0, 6));
        checks.same("dissents", "0 0 0 1 ", dissents(c));
        checks.same("vote", true, c.vote(9, 3));
        checks.same("house tone", 9, c.houseTone());
        checks.same("dissents", "0 1 0 1 ", dissents(c));
        CricketCooperative eight = View.withTones(0, 1, 2, 3, 4, 5, 6, 7);
        checks.same("eight members", true, eight.vote(3, 2));
        checks.same("dissents", "1 0 0 0 0 0 1 1 ", dissents(eight));
    }

    private static void notCarried() {
        CricketCooperative c = View.withTones(0, 2, 11, 6);
        c.vote(2, 6);
        String before = View.of(c);
        checks.same("vote", false, c.vote(6, 0));
        checks.same("vote", false, c.vote(1, 0));
        checks.same("view", before, View.of(c));
        CricketCooperative empty = new CricketCooperative();
        checks.same("vote without members", false, empty.vote(5, 6));
        checks.same("house tone", 0, empty.houseTone());
    }

    private static void halfIsTooFew() {
        CricketCooperative c = View.withTones(0, 6);
        checks.same("half of 20", false, c.vote(0, 0));
        c.addMember(1, 2, 0, 0);
        checks.same("11 of 21", true, c.vote(0, 0));
        c.addMember(1, 2, 0, 6);
        checks.same("11 of 22", false, c.vote(0, 0));
        checks.same("dissents", "0 1 0 0 ", dissents(c));
    }

    private static void motionOutOfRange() {
        CricketCooperative c = View.withTones(0, 6);
        int[][] wrong = {{-1, 6}, {12, 6}, {0, -1}, {0, 7}, {Integer.MIN_VALUE, 0},
            {0, Integer.MAX_VALUE}, {12, 7}};
        for (int[] row : wrong) {
            checks.refuses(ARGUMENT, c, "vote " + row[0] + " " + row[1],
                    () -> c.vote(row[0], row[1]));
        }
        checks.same("vote", true, c.vote(11, 6));
        checks.same("house tone", 11, c.houseTone());
    }
}
