/** The boundary cases of promises 7, 22 and 23, a test for each sentence: quarters and dividends. */
public final class EdgeDividendsTest {
    private static final Checks checks = new Checks();

    public static void main(String[] args) {
        quartersWithoutMembers();
        quartersWithoutCoins();
        shareOfEach();
        coinsLeftOver();
        afterQuarters();
        greatQuarters();
        dividendsOfNobody();
        dividendsOfNothing();
        dividendsLeaveAll();
        checks.end();
    }

    /** Members with these shares, and so many coins in the surplus. */
    private static CricketCooperative withSurplus(int coins, int... shares) {
        CricketCooperative c = View.withShares(shares);
        c.wind(0, coins);
        c.passBeats(60);
        c.passBeats(60);
        checks.same("surplus", coins, c.surplus());
        return c;
    }

    private static void pays(String due, CricketCooperative c) {
        StringBuilder given = new StringBuilder();
        StringBuilder counted = new StringBuilder();
        StringBuilder paid = new StringBuilder();
        for (int member = 0; member < c.memberCount(); member++) {
            given.append(c.dividend(member)).append(' ');
            counted.append(c.dividendByCounting(member)).append(' ');
        }
        int surplus = c.surplus();
        checks.same("endQuarter", surplus, c.endQuarter());
        for (int member = 0; member < c.memberCount(); member++) {
            paid.append(c.purse(member)).append(' ');
        }
        checks.same("dividend", due, given.toString());
        checks.same("dividendByCounting", due, counted.toString());
        checks.same("purses", due, paid.toString());
    }

    private static void quartersWithoutMembers() {
        checks.test("7: endQuarter, there are no members", () -> {
            CricketCooperative c = new CricketCooperative();
            c.passBeats(3);
            checks.refuses(Checks.STATE, c, "endQuarter", c::endQuarter);
            checks.same("quarters", 0, c.quarters());
        });
        checks.test("7: endQuarter, the only member's joining is undone", () -> {
            CricketCooperative c = View.withShares(1);
            c.undo();
            checks.refuses(Checks.STATE, c, "endQuarter", c::endQuarter);
        });
    }

    private static void quartersWithoutCoins() {
        checks.test("7: endQuarter, a surplus of 0 coins", () -> {
            CricketCooperative c = View.withShares(3, 4);
            checks.same("endQuarter", 0, c.endQuarter());
            checks.same("quarters", 1, c.quarters());
            checks.same("purses", "0 0", c.purse(0) + " " + c.purse(1));
        });
        checks.test("7: endQuarter, one member gets all", () -> pays("17 ", withSurplus(17, 50)));
    }

    private static void shareOfEach() {
        checks.test("7, 22, 23, Terms, dividends: no coins are left over",
                () -> pays("10 20 30 ", withSurplus(60, 1, 2, 3)));
        checks.test("7, 22, 23, Terms, dividends: the quotients are rounded down",
                // 49, 49 and 2 by 100: the remainders 49, 49 and 2 leave one coin over
                () -> pays("1 0 0 ", withSurplus(1, 49, 49, 2)));
        checks.test("7, 22, 23, Terms, dividends: a member may get nothing",
                // 20 coins by 51: 1000 and 20, which is 19 and 31, and 0 and 20
                () -> pays("20 0 ", withSurplus(20, 50, 1)));
    }

    private static void coinsLeftOver() {
        checks.test("7, 22, 23, Terms, dividends: a coin left over for the greatest remainder",
                // 10 coins by 17: 30, 60, 80 are 1 and 13, 3 and 9, 4 and 12
                () -> pays("2 3 5 ", withSurplus(10, 3, 6, 8)));
        checks.test("7, 22, 23, Terms, dividends: the greatest remainder is the last member's",
                // 8 coins by 7: 8, 16, 32 are 1 and 1, 2 and 2, 4 and 4
                () -> pays("1 2 5 ", withSurplus(8, 1, 2, 4)));
        checks.test("7, 22, 23, Terms, dividends: equal remainders, the lower index",
                () -> pays("1 0 0 ", withSurplus(1, 5, 5, 5)));
        checks.test("7, 22, 23, Terms, dividends: equal remainders behind a greater one",
                // 5 coins by 12: 15, 15, 30 are 1 and 3, 1 and 3, 2 and 6; 7 by 10: 21, 21, 28
                () -> {
                    pays("1 1 3 ", withSurplus(5, 3, 3, 6));
                    pays("2 2 3 ", withSurplus(7, 3, 3, 4));
                });
        checks.test("7, 22, 23, Terms, dividends: one coin each, not two for one member",
                // 7 coins by 8: 7, 14, 14, 21 are 0 and 7, 1 and 6, 1 and 6, 2 and 5
                () -> pays("1 2 2 2 ", withSurplus(7, 1, 2, 2, 3)));
        checks.test("7, 22, 23, Terms, dividends: seven coins left over for eight members",
                () -> pays("2 2 2 2 2 2 2 1 ", withSurplus(15, 5, 5, 5, 5, 5, 5, 5, 5)));
        checks.test("7, 22, 23, Terms, dividends: no coin left over for a remainder of 0",
                // 6 coins by 12: 6, 6, 12, 48 by 12 are 0 and 6, 0 and 6, 1 and 0, 4 and 0
                () -> pays("1 0 1 4 ", withSurplus(6, 1, 1, 2, 8)));
    }

    private static void afterQuarters() {
        checks.test("7, Terms, dividends: then the surplus is 0", () -> {
            CricketCooperative c = withSurplus(10, 3, 6, 8);
            c.endQuarter();
            checks.same("surplus", 0, c.surplus());
            checks.same("the next quarter", 0, c.endQuarter());
            checks.same("purse", 2, c.purse(0));
        });
        checks.test("7: endQuarter pays into purses that hold coins already", () -> {
            CricketCooperative c = withSurplus(10, 3, 6, 8);
            c.endQuarter();
            c.wind(1, 10);
            c.passBeats(60);
            checks.same("endQuarter", 10, c.endQuarter());
            checks.same("purses", "4 6 10", c.purse(0) + " " + c.purse(1) + " " + c.purse(2));
        });
        checks.test("7: endQuarter leaves beat, springs and shares as they are", () -> {
            CricketCooperative c = withSurplus(10, 3, 6, 8);
            c.wind(1, 7);
            c.endQuarter();
            checks.same("beat", 120, c.beat());
            checks.same("springs", "0 7 0", c.spring(0) + " " + c.spring(1) + " " + c.spring(2));
            checks.same("shares", "3 6 8", c.shares(0) + " " + c.shares(1) + " " + c.shares(2));
        });
    }

    /** As many coins as some hundred calls earn: eight chirp in each of 30 beats of a call. */
    private static void greatQuarters() {
        checks.test("7, 22, 23: a surplus whose products are great numbers", () -> {
            CricketCooperative c = View.withShares(50, 50, 50, 50, 50, 50, 50, 49);
            int earned = 0;
            for (int round = 0; round < 24; round++) {
                for (int member = 0; member < 8; member++) {
                    c.wind(member, 60);
                }
                earned += c.passBeats(60) + c.passBeats(60);
            }
            checks.same("earned", 24 * 8 * 60, earned);
            // 11520 coins by 399: 576000 is 1443 and 243, 564480 is 1414 and 294
            pays("1444 1444 1444 1444 1443 1443 1443 1415 ", c);
        });
    }

    private static void dividendsOfNobody() {
        CricketCooperative c = withSurplus(5, 2, 1);
        CricketCooperative empty = new CricketCooperative();
        checks.test("22: dividend, no such member", () -> {
            checks.throwsExactly(Checks.INDEX, "-1", () -> c.dividend(-1));
            checks.throwsExactly(Checks.INDEX, "m", () -> c.dividend(2));
            checks.throwsExactly(Checks.INDEX, "without members", () -> empty.dividend(0));
            checks.refusesEach(Checks.INDEX, c, "member", Checks.NOBODY, member -> c.dividend(member));
        });
        checks.test("23: dividendByCounting, no such member", () -> {
            checks.throwsExactly(Checks.INDEX, "-1", () -> c.dividendByCounting(-1));
            checks.throwsExactly(Checks.INDEX, "m", () -> c.dividendByCounting(2));
            checks.throwsExactly(Checks.INDEX, "without members", () -> empty.dividendByCounting(0));
            checks.refusesEach(Checks.INDEX, c, "member", Checks.NOBODY,
                    member -> c.dividendByCounting(member));
        });
    }

    private static void dividendsOfNothing() {
        CricketCooperative c = View.withShares(2, 1);
        checks.test("22: dividend, a surplus of 0 coins", () -> {
            checks.same("dividend", 0, c.dividend(0));
            checks.same("dividend", 0, c.dividend(1));
        });
        checks.test("23: dividendByCounting, a surplus of 0 coins", () -> {
            checks.same("dividendByCounting", 0, c.dividendByCounting(0));
            checks.same("dividendByCounting", 0, c.dividendByCounting(1));
        });
    }

    private static void dividendsLeaveAll() {
        checks.test("22: dividend ends no quarter", () -> {
            CricketCooperative c = withSurplus(5, 2, 1);
            String before = View.of(c);
            checks.same("dividend", 3, c.dividend(0));
            checks.same("the state", before, View.of(c));
            checks.same("once more", 3, c.dividend(0));
            checks.same("of the last member", 2, c.dividend(1));
        });
        checks.test("23: dividendByCounting ends no quarter", () -> {
            CricketCooperative c = withSurplus(5, 2, 1);
            String before = View.of(c);
            checks.same("dividendByCounting", 3, c.dividendByCounting(0));
            checks.same("the state", before, View.of(c));
            checks.same("once more", 3, c.dividendByCounting(0));
            checks.same("of the last member", 2, c.dividendByCounting(1));
        });
        checks.test("22, 23: a purchase changes the shares and the surplus to divide", () -> {
            CricketCooperative c = withSurplus(15, 2, 1);
            c.endQuarter();
            checks.same("purse", 10, c.purse(0));
            c.buyShares(0, 1);
            // 5 coins by 4: 15 and 5 are 3 and 3, 1 and 1
            checks.same("dividend", "4 1", c.dividend(0) + " " + c.dividend(1));
            checks.same("dividendByCounting", "4 1", c.dividendByCounting(0) + " "
                    + c.dividendByCounting(1));
        });
    }
}
