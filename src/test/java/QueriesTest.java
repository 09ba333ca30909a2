import java.util.NoSuchElementException;

/** Promises 9 to 23: queries about members, beats and dividends. */
public final class QueriesTest {
    private static final Checks checks = new Checks();
    private static final Class<IndexOutOfBoundsException> INDEX = IndexOutOfBoundsException.class;
    private static final Class<IllegalArgumentException> ARGUMENT = IllegalArgumentException.class;
    private static final Class<NoSuchElementException> NO_SUCH = NoSuchElementException.class;
    private static final int[] NO_MEMBERS = {-1, 3, 7, 8, Integer.MIN_VALUE, Integer.MAX_VALUE};

    public static void main(String[] args) {
        checks.test("9: memberCount", QueriesTest::members);
        checks.test("10 to 14: shares, spring, tone, purse, dissents", QueriesTest::numbersOfMembers);
        checks.test("10 to 14: no such member", QueriesTest::noSuchMember);
        checks.test("15: interval", QueriesTest::intervals);
        checks.test("15: interval, no such member", QueriesTest::intervalRefused);
        checks.test("16: memberAtRank", QueriesTest::ranks);
        checks.test("16: memberAtRank, ranked by coins", QueriesTest::ranksByCoins);
        checks.test("16: memberAtRank, a later member is richer",
                QueriesTest::laterMemberIsRicher);
        checks.test("16: memberAtRank, no such rank", QueriesTest::noSuchRank);
        checks.test("17, 18: dueBeats and dueBeatsByDoubling", QueriesTest::dueBeats);
        checks.test("17, 18: every period, phase and beat", QueriesTest::dueBeatsOfAll);
        checks.test("17, 18: no such member", QueriesTest::dueBeatsRefused);
        checks.test("19: commonBeats", QueriesTest::commonBeats);
        checks.test("20: beatsUntilChorus", QueriesTest::chorus);
        checks.test("20: beatsUntilChorus, none", QueriesTest::noChorus);
        checks.test("21: earningsIn", QueriesTest::earnings);
        checks.test("21: earningsIn, out of range", QueriesTest::earningsRefused);
        checks.test("22, 23: dividend and dividendByCounting", QueriesTest::dividends);
        checks.test("22, 23: no such member", QueriesTest::dividendsRefused);
        checks.end();
    }

    private static void members() {
        CricketCooperative c = new CricketCooperative();
        for (int count = 0; count < 8; count++) {
            checks.same("memberCount", count, c.memberCount());
            c.addMember(1, 2, 0, 0);
        }
        checks.same("memberCount", 8, c.memberCount());
    }

    private static CricketCooperative threeMembers() {
        CricketCooperative c = new CricketCooperative();
        c.addMember(10, 3, 0, 0);
        c.addMember(20, 4, 1, 4);
        c.addMember(30, 6, 3, 9);
        c.wind(0, 20);
        c.wind(1, 40);
        c.passBeats(24);
        c.endQuarter();
        c.vote(5, 4);
        return c;
    }

    private static void numbersOfMembers() {
        CricketCooperative c = threeMembers();
        checks.same("shares", "10 20 30", c.shares(0) + " " + c.shares(1) + " " + c.shares(2));
        checks.same("spring", "12 34 0", c.spring(0) + " " + c.spring(1) + " " + c.spring(2));
        checks.same("tone", "0 4 9", c.tone(0) + " " + c.tone(1) + " " + c.tone(2));
        // 14 coins by 60 shares: 2 and 20, 4 and 40, 7 and 0
        checks.same("purse", "2 5 7", c.purse(0) + " " + c.purse(1) + " " + c.purse(2));
        checks.same("dissents", "1 0 0", c.dissents(0) + " " + c.dissents(1) + " " + c.dissents(2));
    }

    private static void noSuchMember() {
        CricketCooperative c = threeMembers();
        for (int member : NO_MEMBERS) {
            checks.throwsExactly(INDEX, "shares " + member, () -> c.shares(member));
            checks.throwsExactly(INDEX, "spring " + member, () -> c.spring(member));
            checks.throwsExactly(INDEX, "tone " + member, () -> c.tone(member));
            checks.throwsExactly(INDEX, "purse " + member, () -> c.purse(member));
            checks.throwsExactly(INDEX, "dissents " + member, () -> c.dissents(member));
        }
        CricketCooperative empty = new CricketCooperative();
        checks.throwsExactly(INDEX, "shares of nobody", () -> empty.shares(0));
        checks.throwsExactly(INDEX, "spring of nobody", () -> empty.spring(0));
        checks.throwsExactly(INDEX, "tone of nobody", () -> empty.tone(0));
        checks.throwsExactly(INDEX, "purse of nobody", () -> empty.purse(0));
        checks.throwsExactly(INDEX, "dissents of nobody", () -> empty.dissents(0));
    }

    private static void intervals() {
        CricketCooperative c = View.withTones(0, 0);
        int[] due = {0, 1, 2, 3, 4, 5, 6, 5, 4, 3, 2, 1};
        for (int one = 0; one < 12; one++) {
            c.tune(0, one);
            for (int steps = 0; steps < 12; steps++) {
                c.tune(1, (one + steps) % 12);
                checks.same("interval of " + one + " and " + (one + steps) % 12, due[steps],
                        c.interval(0, 1));
            }
            checks.same("interval with itself", 0, c.interval(0, 0));
        }
        c.tune(0, 2);
        c.tune(1, 11);
        checks.same("interval", 3, c.interval(1, 0));
    }

    private static void intervalRefused() {
        CricketCooperative c = threeMembers();
        for (int member : NO_MEMBERS) {
            checks.throwsExactly(INDEX, "interval", () -> c.interval(member, 0));
            checks.throwsExactly(INDEX, "interval", () -> c.interval(0, member));
            checks.throwsExactly(INDEX, "interval", () -> c.interval(member, member));
        }
    }

    private static String ranking(CricketCooperative c) {
        StringBuilder text = new StringBuilder();
        for (int rank = 0; rank < c.memberCount(); rank++) {
            text.append(c.memberAtRank(rank)).append(' ');
        }
        return text.toString();
    }

    private static void ranks() {
        checks.same("ranking", "2 1 0 ", ranking(threeMembers()));
        checks.same("ranking", "0 1 2 3 ", ranking(View.withShares(4, 3, 2, 1)));
        checks.same("ranking", "1 3 0 2 4 5 ", ranking(View.withShares(4, 9, 4, 9, 4, 1)));
        checks.same("ranking", "0 1 2 3 4 5 6 7 ", ranking(View.withShares(2, 2, 2, 2, 2, 2, 2, 2)));
    }

    private static void ranksByCoins() {
        CricketCooperative c = View.withShares(5, 5, 20);
        c.wind(0, 12);
        c.passBeats(24);
        c.endQuarter();
        // purses 2, 2, 8
        checks.same("ranking", "2 0 1 ", ranking(c));
        c.wind(0, 1);
        c.passBeats(2);
        c.endQuarter();
        // purses 2, 2, 9
        c.addMember(5, 2, 0, 0);
        c.addMember(25, 2, 0, 0);
        checks.same("ranking", "4 2 0 1 3 ", ranking(c));
        c.buyShares(2, 1);
        checks.same("ranking", "4 2 0 1 3 ", ranking(c));
        c.wind(0, 3);
        c.passBeats(6);
        c.endQuarter();
        // 8 coins by 61 shares: 40 and 168 and 40 and 40 and 200: 0, 0, 2 and 46, 0, 3 and 17
        checks.same("purses", "3 3 7 0 3", c.purse(0) + " " + c.purse(1) + " " + c.purse(2) + " "
                + c.purse(3) + " " + c.purse(4));
        checks.same("ranking", "4 2 0 1 3 ", ranking(c));
    }

    private static void laterMemberIsRicher() {
        CricketCooperative c = View.withShares(6, 7);
        c.wind(0, 60);
        c.passBeats(60);
        c.passBeats(60);
        c.endQuarter();
        // 60 coins by 13 shares: 360 and 420: 27 and 9, 32 and 4
        checks.same("purses", "28 32", c.purse(0) + " " + c.purse(1));
        c.buyShares(0, 1);
        checks.same("ranking", "1 0 ", ranking(c));
        c.buyShares(1, 2);
        c.buyShares(0, 2);
        checks.same("purses", "13 22", c.purse(0) + " " + c.purse(1));
        checks.same("ranking", "1 0 ", ranking(c));
        c.buyShares(0, 1);
        checks.same("ranking", "0 1 ", ranking(c));
    }

    private static void noSuchRank() {
        CricketCooperative c = threeMembers();
        for (int rank : NO_MEMBERS) {
            checks.throwsExactly(NO_SUCH, "rank " + rank, () -> c.memberAtRank(rank));
        }
        CricketCooperative empty = new CricketCooperative();
        checks.throwsExactly(NO_SUCH, "rank of nobody", () -> empty.memberAtRank(0));
    }

    private static void dueBeats() {
        CricketCooperative c = new CricketCooperative();
        c.addMember(1, 3, 0, 0);
        c.addMember(1, 4, 1, 0);
        checks.same("dueBeats", 658812288346769700L, c.dueBeats(0));
        checks.same("dueBeatsByDoubling", 658812288346769700L, c.dueBeatsByDoubling(0));
        checks.same("dueBeats", 76861433640456465L, c.dueBeats(1));
        checks.same("dueBeatsByDoubling", 76861433640456465L, c.dueBeatsByDoubling(1));
        c.wind(0, 5);
        checks.same("dueBeats with a spring", 658812288346769700L, c.dueBeats(0));
        c.passBeats(1);
        checks.same("dueBeats, a beat later", 658812288346769700L / 2, c.dueBeats(0));
    }

    private static void dueBeatsOfAll() {
        for (int period = 2; period <= 12; period++) {
            for (int phase = 0; phase < period; phase++) {
                CricketCooperative c = new CricketCooperative();
                c.addMember(1, period, phase, 0);
                for (int beat = 0; beat < 2 * period; beat++) {
                    long due = 0;
                    for (int k = 0; k < 60; k++) {
                        if (Math.floorMod(beat + 1 + k - phase, period) == 0) {
                            due += 1L << k;
                        }
                    }
                    String what = "period " + period + " phase " + phase + " beat " + beat;
                    checks.same(what, due, c.dueBeats(0));
                    checks.same(what + " by doubling", due, c.dueBeatsByDoubling(0));
                    c.passBeats(1);
                }
            }
        }
    }

    private static void dueBeatsRefused() {
        CricketCooperative c = threeMembers();
        for (int member : NO_MEMBERS) {
            checks.throwsExactly(INDEX, "dueBeats", () -> c.dueBeats(member));
            checks.throwsExactly(INDEX, "dueBeatsByDoubling", () -> c.dueBeatsByDoubling(member));
        }
    }

    private static void commonBeats() {
        CricketCooperative c = new CricketCooperative();
        c.addMember(1, 3, 0, 0);
        c.addMember(1, 4, 1, 4);
        c.addMember(1, 6, 3, 5);
        c.addMember(1, 6, 2, 5);
        c.addMember(1, 7, 6, 5);
        checks.same("3 and 4+1", 5, c.commonBeats(0, 1));
        checks.same("4+1 and 3", 5, c.commonBeats(1, 0));
        checks.same("3 and 6+3", 10, c.commonBeats(0, 2));
        checks.same("3 and 6+2", 0, c.commonBeats(0, 3));
        checks.same("with itself", 20, c.commonBeats(0, 0));
        checks.same("with itself", 8, c.commonBeats(4, 4));
        c.passBeats(2);
        checks.same("with itself, later", 9, c.commonBeats(4, 4));
        c.passBeats(4);
        checks.same("with itself, last", 8, c.commonBeats(4, 4));
        int[] none = {-1, 5, 8, Integer.MAX_VALUE, Integer.MIN_VALUE};
        for (int member : none) {
            checks.throwsExactly(INDEX, "commonBeats", () -> c.commonBeats(member, 0));
            checks.throwsExactly(INDEX, "commonBeats", () -> c.commonBeats(0, member));
        }
    }

    private static void chorus() {
        CricketCooperative c = new CricketCooperative();
        c.addMember(1, 3, 0, 0);
        checks.same("one member", 3, c.beatsUntilChorus());
        c.addMember(1, 4, 1, 4);
        checks.same("two members", 9, c.beatsUntilChorus());
        c.addMember(1, 5, 4, 1);
        checks.same("three members", 9, c.beatsUntilChorus());
        c.passBeats(8);
        checks.same("the next beat", 1, c.beatsUntilChorus());
        c.passBeats(1);
        checks.same("after the chorus", 60, c.beatsUntilChorus());
        c.passBeats(59);
        checks.same("a round later", 1, c.beatsUntilChorus());
    }

    private static void noChorus() {
        CricketCooperative empty = new CricketCooperative();
        checks.throwsExactly(NO_SUCH, "no members", empty::beatsUntilChorus);
        CricketCooperative c = new CricketCooperative();
        c.addMember(1, 6, 2, 0);
        c.addMember(1, 4, 1, 0);
        checks.throwsExactly(NO_SUCH, "never", c::beatsUntilChorus);
        CricketCooperative late = new CricketCooperative();
        late.addMember(1, 7, 0, 0);
        late.addMember(1, 9, 7, 0);
        late.addMember(1, 2, 1, 0);
        // 7 is due first; the next time is 126 beats later
        checks.same("first", 7, late.beatsUntilChorus());
        late.passBeats(7);
        checks.throwsExactly(NO_SUCH, "in 126 beats", late::beatsUntilChorus);
        late.passBeats(60);
        checks.throwsExactly(NO_SUCH, "in 66 beats", late::beatsUntilChorus);
        late.passBeats(5);
        checks.throwsExactly(NO_SUCH, "in 61 beats", late::beatsUntilChorus);
        late.passBeats(1);
        checks.same("in 60 beats", 60, late.beatsUntilChorus());
    }

    private static void earnings() {
        CricketCooperative c = new CricketCooperative();
        checks.same("without members", 0, c.earningsIn(60));
        c.addMember(10, 3, 0, 0);
        c.addMember(7, 4, 1, 4);
        c.addMember(4, 6, 3, 5);
        c.wind(0, 20);
        c.wind(1, 20);
        c.wind(2, 5);
        String before = View.of(c);
        checks.same("in 0 beats", 0, c.earningsIn(0));
        checks.same("in 1 beat", 1, c.earningsIn(1));
        checks.same("in 12 beats", 6, c.earningsIn(12));
        int inAll = c.earningsIn(60);
        checks.same("view", before, View.of(c));
        checks.same("passBeats", 6, c.passBeats(12));
        checks.same("in the rest", inAll - 6, c.earningsIn(48));
        checks.same("passBeats", inAll - 6, c.passBeats(48));
    }

    private static void earningsRefused() {
        CricketCooperative c = threeMembers();
        int[] wrong = {-1, 61, Integer.MIN_VALUE, Integer.MAX_VALUE};
        for (int beats : wrong) {
            checks.refuses(ARGUMENT, c, "earningsIn " + beats, () -> c.earningsIn(beats));
        }
    }

    private static void dividends() {
        CricketCooperative c = View.withShares(3, 6, 8);
        c.wind(0, 60);
        int[][] due = {{0, 0, 0}, {0, 0, 1}, {0, 1, 1}, {1, 1, 1}, {1, 1, 2}, {1, 2, 2}, {1, 2, 3},
            {1, 3, 3}, {1, 3, 4}, {2, 3, 4}, {2, 3, 5}};
        for (int coins = 0; coins < due.length; coins++) {
            String before = View.of(c);
            for (int member = 0; member < 3; member++) {
                String what = "dividend of " + coins + " coins for " + member;
                checks.same(what, due[coins][member], c.dividend(member));
                checks.same(what + " by counting", due[coins][member], c.dividendByCounting(member));
            }
            checks.same("view", before, View.of(c));
            c.passBeats(2);
        }
        CricketCooperative equal = View.withShares(5, 5, 5, 5);
        equal.wind(3, 2);
        equal.passBeats(4);
        checks.same("equal remainders", "1 1 0 0", equal.dividend(0) + " " + equal.dividend(1) + " "
                + equal.dividend(2) + " " + equal.dividend(3));
        checks.same("equal remainders by counting", "1 1 0 0", equal.dividendByCounting(0) + " "
                + equal.dividendByCounting(1) + " " + equal.dividendByCounting(2) + " "
                + equal.dividendByCounting(3));
    }

    private static void dividendsRefused() {
        CricketCooperative c = threeMembers();
        for (int member : NO_MEMBERS) {
            checks.throwsExactly(INDEX, "dividend", () -> c.dividend(member));
            checks.throwsExactly(INDEX, "dividendByCounting", () -> c.dividendByCounting(member));
        }
        CricketCooperative empty = new CricketCooperative();
        checks.throwsExactly(INDEX, "dividend of nobody", () -> empty.dividend(0));
        checks.throwsExactly(INDEX, "dividend of nobody", () -> empty.dividendByCounting(0));
    }
}
