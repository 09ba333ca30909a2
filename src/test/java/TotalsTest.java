/** Promises 32 to 42: the totals. */
public final class TotalsTest {
    private static final Checks checks = new Checks();
    private static final Class<IndexOutOfBoundsException> INDEX = IndexOutOfBoundsException.class;

    public static void main(String[] args) {
        checks.test("32: beat", TotalsTest::beats);
        checks.test("33: surplus", TotalsTest::surplus);
        checks.test("34: houseTone", TotalsTest::houseTone);
        checks.test("35: quarters", TotalsTest::quarters);
        checks.test("36, 37: coinTotal and coinsByAccounts", TotalsTest::coins);
        checks.test("38: chirps", TotalsTest::chirps);
        checks.test("39: spoiltBeat", TotalsTest::spoiltBeats);
        checks.test("40: meanPurse", TotalsTest::meanPurse);
        checks.test("41: powerShare", TotalsTest::powerShares);
        checks.test("42: isConsistent", TotalsTest::consistent);
        checks.end();
    }

    private static void beats() {
        CricketCooperative c = new CricketCooperative();
        checks.same("beat", 0, c.beat());
        c.passBeats(1);
        checks.same("beat", 1, c.beat());
        c.passBeats(60);
        checks.same("beat", 61, c.beat());
        c.addMember(1, 2, 0, 0);
        c.endQuarter();
        checks.same("beat", 61, c.beat());
    }

    private static void surplus() {
        CricketCooperative c = View.withShares(1, 2);
        c.wind(0, 7);
        c.wind(1, 3);
        c.passBeats(4);
        checks.same("surplus", 4, c.surplus());
        c.passBeats(60);
        checks.same("surplus", 10, c.surplus());
        c.endQuarter();
        checks.same("surplus", 0, c.surplus());
        c.buyShares(1, 1);
        checks.same("surplus", 5, c.surplus());
        c.wind(0, 1);
        c.passBeats(2);
        checks.same("surplus", 6, c.surplus());
    }

    private static void houseTone() {
        CricketCooperative c = View.withTones(3, 4);
        checks.same("houseTone", 0, c.houseTone());
        c.vote(7, 6);
        checks.same("houseTone", 7, c.houseTone());
        c.vote(11, 0);
        checks.same("houseTone", 7, c.houseTone());
        c.vote(11, 5);
        checks.same("houseTone", 11, c.houseTone());
    }

    private static void quarters() {
        CricketCooperative c = View.withShares(1);
        for (int quarter = 0; quarter < 20; quarter++) {
            checks.same("quarters", quarter, c.quarters());
            c.endQuarter();
        }
        checks.same("quarters", 20, c.quarters());
    }

    private static void coins() {
        CricketCooperative c = View.withShares(3, 4, 5);
        int earned = 0;
        for (int round = 0; round < 12; round++) {
            c.wind(round % 3, 10 + round);
            earned += c.passBeats(60);
            checks.same("coinTotal", earned, c.coinTotal());
            checks.same("coinsByAccounts", earned, c.coinsByAccounts());
            c.endQuarter();
            checks.same("coinTotal", earned, c.coinTotal());
            checks.same("coinsByAccounts", earned, c.coinsByAccounts());
            if (c.purse(2) >= 5) {
                c.buyShares(2, 1);
            }
            checks.same("coinTotal", earned, c.coinTotal());
            checks.same("coinsByAccounts", earned, c.coinsByAccounts());
        }
        checks.same("coins", 12 * 10 + 66, earned);
    }

    private static void chirps() {
        CricketCooperative c = View.withTones(0, 1, 3);
        c.passBeats(10);
        checks.same("without springs", 0, c.chirps());
        c.wind(0, 2);
        c.passBeats(10);
        checks.same("one", 2, c.chirps());
        c.wind(0, 2);
        c.wind(1, 3);
        c.passBeats(10);
        checks.same("spoilt beats too", 7, c.chirps());
        c.endQuarter();
        checks.same("after a quarter", 7, c.chirps());
    }

    private static void spoiltBeats() {
        CricketCooperative c = View.withTones(0, 6);
        c.passBeats(3);
        checks.same("none", "", View.spoiltBeats(c));
        checks.throwsExactly(INDEX, "spoiltBeat 0 of none", () -> c.spoiltBeat(0));
        c.wind(0, 60);
        c.wind(1, 60);
        c.passBeats(5);
        checks.same("three", "8 6 4 ", View.spoiltBeats(c));
        checks.throwsExactly(INDEX, "spoiltBeat 3 of three", () -> c.spoiltBeat(3));
        checks.throwsExactly(INDEX, "spoiltBeat -1", () -> c.spoiltBeat(-1));
        c.passBeats(14);
        checks.same("ten", "22 20 18 16 14 12 10 8 6 4 ", View.spoiltBeats(c));
        c.tune(1, 7);
        c.passBeats(2);
        checks.same("ten", "22 20 18 16 14 12 10 8 6 4 ", View.spoiltBeats(c));
        c.tune(1, 11);
        c.passBeats(2);
        checks.same("the latest ten", "26 22 20 18 16 14 12 10 8 6 ", View.spoiltBeats(c));
        c.passBeats(60);
        checks.same("later ones", "86 84 82 80 78 76 74 72 70 68 ", View.spoiltBeats(c));
        checks.throwsExactly(INDEX, "spoiltBeat 10", () -> c.spoiltBeat(10));
        checks.throwsExactly(INDEX, "spoiltBeat far", () -> c.spoiltBeat(Integer.MAX_VALUE));
        checks.throwsExactly(INDEX, "spoiltBeat least", () -> c.spoiltBeat(Integer.MIN_VALUE));
    }

    private static void meanPurse() {
        CricketCooperative c = new CricketCooperative();
        checks.throwsExactly(ArithmeticException.class, "nobody", c::meanPurse);
        c.addMember(1, 2, 0, 0);
        c.addMember(1, 2, 0, 0);
        c.addMember(2, 2, 0, 0);
        checks.same("meanPurse", 0.0, c.meanPurse());
        c.wind(0, 8);
        c.passBeats(60);
        checks.same("the surplus is in no purse", 0.0, c.meanPurse());
        c.endQuarter();
        checks.same("meanPurse", 8.0 / 3.0, c.meanPurse());
        c.addMember(1, 2, 0, 0);
        checks.same("meanPurse", 2.0, c.meanPurse());
    }

    private static void powerShares() {
        CricketCooperative c = View.withShares(11, 7, 4);
        checks.same("powerShare", 3.0f / 5.0f, c.powerShare(0));
        checks.same("powerShare", 1.0f / 5.0f, c.powerShare(1));
        checks.same("powerShare", 1.0f / 5.0f, c.powerShare(2));
        checks.same("one", 1.0f, View.withShares(3).powerShare(0));
        checks.same("no power", 0.0f, View.withShares(4, 5).powerShare(0));
        checks.same("three", 1.0f / 3.0f, View.withShares(4, 5, 6).powerShare(1));
        checks.same("eight", 1.0f / 8.0f, View.withShares(1, 1, 1, 1, 1, 1, 1, 1).powerShare(7));
        int[] none = {-1, 3, 8, Integer.MIN_VALUE, Integer.MAX_VALUE};
        for (int member : none) {
            checks.throwsExactly(INDEX, "powerShare " + member, () -> c.powerShare(member));
        }
        CricketCooperative empty = new CricketCooperative();
        checks.throwsExactly(INDEX, "powerShare of nobody", () -> empty.powerShare(0));
    }

    private static void consistent() {
        CricketCooperative c = new CricketCooperative();
        checks.same("empty", true, c.isConsistent());
        c.passBeats(5);
        checks.same("empty, later", true, c.isConsistent());
        for (int member = 0; member < 8; member++) {
            c.addMember(3 + member, 2 + member, 1, member);
            c.wind(member, 60);
            c.passBeats(7 + member);
            String before = View.of(c);
            checks.same("isConsistent", true, c.isConsistent());
            checks.same("view", before, View.of(c));
        }
        c.endQuarter();
        checks.same("after a quarter", true, c.isConsistent());
        c.passBeats(60);
        c.endQuarter();
        c.buyShares(7, 1);
        checks.same("after a purchase", true, c.isConsistent());
        c.undo();
        checks.same("after undo", true, c.isConsistent());
    }
}
