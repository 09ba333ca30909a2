/** The boundary cases of promises 9 to 16, a test for each sentence: queries about members. */
public final class EdgeQueriesTest {
    private static final Checks checks = new Checks();

    public static void main(String[] args) {
        counts();
        nobody();
        undoneMember();
        extremesOfMembers();
        intervals();
        intervalsOfNobody();
        ranks();
        equalRanks();
        noRanks();
        checks.end();
    }

    private static void counts() {
        checks.test("9: memberCount, 0 at the least",
                () -> checks.same("memberCount", 0, new CricketCooperative().memberCount()));
        checks.test("9: memberCount, 8 at the most", () -> {
            CricketCooperative c = View.withShares(1, 1, 1, 1, 1, 1, 1, 1);
            checks.same("memberCount", 8, c.memberCount());
            checks.throwsExactly(Checks.STATE, "the ninth", () -> c.addMember(1, 2, 0, 0));
            checks.same("memberCount", 8, c.memberCount());
        });
        checks.test("9: memberCount, a refused member does not count", () -> {
            CricketCooperative c = View.withShares(1);
            checks.throwsExactly(Checks.ARGUMENT, "0 shares", () -> c.addMember(0, 2, 0, 0));
            checks.same("memberCount", 1, c.memberCount());
        });
        checks.test("9: memberCount, an undone member does not count", () -> {
            CricketCooperative c = View.withShares(1, 1);
            c.undo();
            checks.same("memberCount", 1, c.memberCount());
            c.undo();
            checks.same("memberCount", 0, c.memberCount());
        });
    }

    interface Query {
        int of(CricketCooperative c, int member);
    }

    private static void refusesNobody(String name, Query query) {
        CricketCooperative empty = new CricketCooperative();
        CricketCooperative two = View.withShares(1, 2);
        CricketCooperative eight = View.withShares(1, 1, 1, 1, 1, 1, 1, 1);
        checks.test(name + ", no member -1", () -> checks.refuses(Checks.INDEX, two, name,
                () -> query.of(two, -1)));
        checks.test(name + ", no member m", () -> checks.refuses(Checks.INDEX, two, name,
                () -> query.of(two, 2)));
        checks.test(name + ", no member without members", () -> checks.refuses(Checks.INDEX, empty,
                name, () -> query.of(empty, 0)));
        checks.test(name + ", no ninth member", () -> checks.refuses(Checks.INDEX, eight, name,
                () -> query.of(eight, 8)));
        checks.test(name + ", no members far away", () -> checks.refusesEach(Checks.INDEX, two, name,
                Checks.NOBODY, member -> query.of(two, member)));
    }

    private static void nobody() {
        refusesNobody("10: shares", CricketCooperative::shares);
        refusesNobody("11: spring", CricketCooperative::spring);
        refusesNobody("12: tone", CricketCooperative::tone);
        refusesNobody("13: purse", CricketCooperative::purse);
        refusesNobody("14: dissents", CricketCooperative::dissents);
    }

    private static void undoneMember() {
        checks.test("10 to 14: an undone member is no member", () -> {
            CricketCooperative c = View.withShares(1, 2);
            c.undo();
            checks.throwsExactly(Checks.INDEX, "shares", () -> c.shares(1));
            checks.throwsExactly(Checks.INDEX, "spring", () -> c.spring(1));
            checks.throwsExactly(Checks.INDEX, "tone", () -> c.tone(1));
            checks.throwsExactly(Checks.INDEX, "purse", () -> c.purse(1));
            checks.throwsExactly(Checks.INDEX, "dissents", () -> c.dissents(1));
        });
    }

    private static void extremesOfMembers() {
        checks.test("10: shares, from 1 to 50, of the first and the eighth member", () -> {
            CricketCooperative c = View.withShares(1, 2, 3, 4, 5, 6, 7, 50);
            checks.same("shares", 1, c.shares(0));
            checks.same("shares", 50, c.shares(7));
        });
        checks.test("11: spring, from 0 to 60, of the first and the eighth member", () -> {
            CricketCooperative c = View.withShares(1, 2, 3, 4, 5, 6, 7, 8);
            c.wind(7, 60);
            checks.same("spring", 0, c.spring(0));
            checks.same("spring", 60, c.spring(7));
        });
        checks.test("12: tone, from 0 to 11, of the first and the eighth member", () -> {
            CricketCooperative c = View.withTones(0, 1, 2, 3, 4, 5, 6, 11);
            checks.same("tone", 0, c.tone(0));
            checks.same("tone", 11, c.tone(7));
        });
        checks.test("13: purse, 0 at first, more than 255 later, of the eighth member", () -> {
            CricketCooperative c = View.withShares(1, 1, 1, 1, 1, 1, 1, 50);
            checks.same("purse", 0, c.purse(7));
            for (int round = 0; round < 10; round++) {
                c.wind(7, 30);
                c.passBeats(60);
            }
            c.endQuarter();
            // 300 coins by 57: 15000 is 263 and 9, 300 is 5 and 15
            checks.same("purse", 263, c.purse(7));
            checks.same("purse", 6, c.purse(0));
        });
        checks.test("14: dissents, 0 at first, more than 255 later, of the eighth member", () -> {
            CricketCooperative c = View.withTones(0, 0, 0, 0, 0, 0, 0, 6);
            checks.same("dissents", 0, c.dissents(7));
            for (int round = 0; round < 260; round++) {
                c.vote(0, 5);
            }
            checks.same("dissents", 260, c.dissents(7));
            checks.same("dissents", 0, c.dissents(0));
        });
    }

    private static void intervalIs(int due, int one, int other) {
        CricketCooperative c = View.withTones(one, other);
        checks.same(one + " and " + other, due, c.interval(0, 1));
        checks.same(other + " and " + one, due, c.interval(1, 0));
    }

    private static void intervals() {
        checks.test("15, Terms, tones: interval, 0 at the least",
                () -> intervalIs(0, 11, 11));
        checks.test("15, Terms, tones: interval, 6 at the most", () -> {
            intervalIs(6, 0, 6);
            intervalIs(6, 5, 11);
        });
        checks.test("15, Terms, tones: interval, five steps up or seven around", () -> {
            intervalIs(5, 0, 5);
            intervalIs(5, 0, 7);
            intervalIs(5, 11, 4);
        });
        checks.test("15, Terms, tones: interval, a step around the end of the ring",
                () -> intervalIs(1, 11, 0));
        checks.test("15: interval, possibly the same member", () -> {
            CricketCooperative c = View.withTones(4, 11);
            checks.same("interval", 0, c.interval(0, 0));
            checks.same("interval", 0, c.interval(1, 1));
        });
    }

    private static void intervalsOfNobody() {
        refusesNobody("15: interval, one", (c, member) -> c.interval(member, 0));
        refusesNobody("15: interval, the other", (c, member) -> c.interval(0, member));
        refusesNobody("15: interval, both", (c, member) -> c.interval(member, member));
    }

    private static void ranks() {
        checks.test("16: memberAtRank, from 0 to m - 1", () -> {
            CricketCooperative c = View.withShares(1, 2, 3, 4, 5, 6, 7, 50);
            checks.same("rank 0", 7, c.memberAtRank(0));
            checks.same("rank 7", 0, c.memberAtRank(7));
        });
        checks.test("16: memberAtRank, the only member",
                () -> checks.same("rank 0", 0, View.withShares(1).memberAtRank(0)));
        checks.test("16: memberAtRank, more shares count more than more coins", () -> {
            CricketCooperative c = View.richMember(5, 40);
            c.addMember(6, 2, 0, 0);
            checks.same("rank 0", 1, c.memberAtRank(0));
            checks.same("rank 1", 0, c.memberAtRank(1));
        });
    }

    private static void equalRanks() {
        checks.test("16: memberAtRank, equal shares, more coins", () -> {
            CricketCooperative c = View.withShares(4, 5);
            c.wind(0, 27);
            c.passBeats(60);
            c.endQuarter();
            checks.same("purses", "12 15", c.purse(0) + " " + c.purse(1));
            c.buyShares(0, 1);
            checks.same("rank 0", 1, c.memberAtRank(0));
            checks.same("rank 1", 0, c.memberAtRank(1));
        });
        checks.test("16: memberAtRank, equal shares and coins, the lower index", () -> {
            CricketCooperative c = View.withShares(5, 5, 5, 5, 5, 5, 5, 5);
            for (int rank = 0; rank < 8; rank++) {
                checks.same("rank " + rank, rank, c.memberAtRank(rank));
            }
        });
    }

    private static void noRanks() {
        CricketCooperative c = View.withShares(1, 2);
        checks.test("16: memberAtRank, rank -1 is negative", () -> checks.refuses(Checks.NO_SUCH, c,
                "memberAtRank", () -> c.memberAtRank(-1)));
        checks.test("16: memberAtRank, rank m is not less than the number", () -> checks.refuses(
                Checks.NO_SUCH, c, "memberAtRank", () -> c.memberAtRank(2)));
        checks.test("16: memberAtRank, rank 8 of eight members", () -> {
            CricketCooperative eight = View.withShares(1, 1, 1, 1, 1, 1, 1, 1);
            checks.refuses(Checks.NO_SUCH, eight, "memberAtRank", () -> eight.memberAtRank(8));
        });
        checks.test("16: memberAtRank, rank 0 without members", () -> {
            CricketCooperative empty = new CricketCooperative();
            checks.refuses(Checks.NO_SUCH, empty, "memberAtRank", () -> empty.memberAtRank(0));
        });
        checks.test("16: memberAtRank, ranks far away", () -> checks.refusesEach(Checks.NO_SUCH, c,
                "rank", Checks.NOBODY, rank -> c.memberAtRank(rank)));
    }
}
