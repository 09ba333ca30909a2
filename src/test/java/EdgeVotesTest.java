/** The boundary cases of promises 8 and 24 to 31, a test for each sentence: votes and power. */
public final class EdgeVotesTest {
    private static final Checks checks = new Checks();

    public static void main(String[] args) {
        motions();
        quotaOfVotes();
        toleranceOfVotes();
        carriedMotions();
        otherMotions();
        favourOutOfRange();
        sharesInFavour();
        carriedTones();
        noCarriedTones();
        quotas();
        winningGroups();
        winningGroupsByTable();
        powers();
        powersByTable();
        powersOfNobody();
        smallestMajorities();
        checks.end();
    }

    private static void motions() {
        CricketCooperative c = View.withTones(3, 9);
        checks.test("8: vote, the tone -1 is too low", () -> checks.refuses(Checks.ARGUMENT, c, "vote",
                () -> c.vote(-1, 6)));
        checks.test("8: vote, the tone 12 is too high", () -> checks.refuses(Checks.ARGUMENT, c,
                "vote", () -> c.vote(12, 6)));
        checks.test("8: vote, tones far out of range", () -> checks.refusesEach(Checks.ARGUMENT, c,
                "tone", Checks.FAR, tone -> c.vote(tone, 6)));
        checks.test("8: vote, the tolerance -1 is too small", () -> checks.refuses(Checks.ARGUMENT, c,
                "vote", () -> c.vote(3, -1)));
        checks.test("8: vote, the tolerance 7 is too great", () -> checks.refuses(Checks.ARGUMENT, c,
                "vote", () -> c.vote(3, 7)));
        checks.test("8: vote, tolerances far out of range", () -> checks.refusesEach(Checks.ARGUMENT,
                c, "tolerance", Checks.FAR, tolerance -> c.vote(3, tolerance)));
        checks.test("8: vote, the tone 11 is not too high, and a tolerance of 6 not too great", () -> {
            checks.same("vote", true, c.vote(11, 6));
            checks.same("house tone", 11, c.houseTone());
        });
        checks.test("8: vote, the tone 0 is not too low", () -> {
            checks.same("vote", true, c.vote(0, 6));
            checks.same("house tone", 0, c.houseTone());
        });
        checks.test("8: vote, a tolerance of 0 is not too small", () -> {
            CricketCooperative one = View.withTones(3);
            checks.same("vote", true, one.vote(3, 0));
            checks.same("house tone", 3, one.houseTone());
        });
    }

    /** A member of tone 0 and one of tone 6. */
    private static CricketCooperative opposed(int shares, int otherShares) {
        CricketCooperative c = new CricketCooperative();
        c.addMember(shares, 2, 0, 0);
        c.addMember(otherShares, 2, 0, 6);
        return c;
    }

    private static void quotaOfVotes() {
        checks.test("8, Terms, votes: half of an even number of shares is too few", () -> {
            checks.same("5 of 10", false, opposed(5, 5).vote(0, 0));
            checks.same("5 of 10", false, opposed(5, 5).vote(6, 0));
        });
        checks.test("8, Terms, votes: half of an even number plus 1 is enough", () -> {
            checks.same("6 of 10", true, opposed(6, 4).vote(0, 0));
            checks.same("4 of 10", false, opposed(6, 4).vote(6, 0));
        });
        checks.test("8, Terms, votes: half of an odd number, rounded down, plus 1 is enough", () -> {
            checks.same("6 of 11", true, opposed(6, 5).vote(0, 0));
            checks.same("5 of 11", false, opposed(6, 5).vote(6, 0));
        });
        checks.test("8, Terms, votes: several members reach the quota together", () -> {
            CricketCooperative c = opposed(50, 50);
            c.addMember(1, 2, 0, 0);
            checks.same("51 of 101", true, c.vote(0, 0));
            checks.same("dissents", "0 1 0", c.dissents(0) + " " + c.dissents(1) + " "
                    + c.dissents(2));
        });
        checks.test("8, Terms, votes: without members the quota of 1 is not reached", () -> {
            CricketCooperative empty = new CricketCooperative();
            checks.same("vote", false, empty.vote(5, 6));
            checks.same("house tone", 0, empty.houseTone());
        });
    }

    private static void toleranceOfVotes() {
        checks.test("8, Terms, votes: an interval that is the tolerance is in favour", () -> {
            for (int tolerance = 0; tolerance <= 6; tolerance++) {
                CricketCooperative c = View.withTones(4);
                checks.same("tolerance " + tolerance, true, c.vote(4 + tolerance, tolerance));
                checks.same("dissents", 0, c.dissents(0));
            }
        });
        checks.test("8, Terms, votes: an interval greater than the tolerance is not", () -> {
            for (int tolerance = 0; tolerance <= 5; tolerance++) {
                CricketCooperative c = View.withTones(4);
                checks.same("tolerance " + tolerance, false, c.vote(5 + tolerance, tolerance));
            }
        });
        checks.test("8, Terms, votes: the interval goes around the end of the ring", () -> {
            checks.same("0 and 11", true, View.withTones(0).vote(11, 1));
            checks.same("11 and 0", true, View.withTones(11).vote(0, 1));
            checks.same("2 and 9", false, View.withTones(2).vote(9, 4));
            checks.same("2 and 9", true, View.withTones(2).vote(9, 5));
        });
    }

    private static void carriedMotions() {
        checks.test("8, Terms, votes: those in favour get no dissent, the others 1 more", () -> {
            CricketCooperative c = View.withTones(0, 2, 4, 6, 8, 10, 1, 11);
            checks.same("vote", true, c.vote(0, 3));
            StringBuilder dissents = new StringBuilder();
            for (int member = 0; member < 8; member++) {
                dissents.append(c.dissents(member)).append(' ');
            }
            checks.same("dissents", "0 0 1 1 1 0 0 0 ", dissents.toString());
        });
        checks.test("8, Terms, votes: the first and the eighth member may dissent", () -> {
            CricketCooperative c = View.withTones(0, 6, 6, 6, 6, 6, 6, 0);
            checks.same("vote", true, c.vote(6, 0));
            checks.same("of the first", 1, c.dissents(0));
            checks.same("of the second", 0, c.dissents(1));
            checks.same("of the eighth", 1, c.dissents(7));
        });
        checks.test("8, Terms, votes: a tolerance of 6 leaves nobody to dissent", () -> {
            CricketCooperative c = View.withTones(0, 6, 3);
            checks.same("vote", true, c.vote(0, 6));
            checks.same("dissents", 0, c.dissents(0) + c.dissents(1) + c.dissents(2));
        });
        checks.test("8, Terms, votes: the house tone may be carried again", () -> {
            CricketCooperative c = opposed(6, 4);
            checks.same("vote", true, c.vote(0, 0));
            checks.same("vote", true, c.vote(0, 0));
            checks.same("house tone", 0, c.houseTone());
            checks.same("dissents", 2, c.dissents(1));
        });
        checks.test("8, Terms, votes: the members keep their own tones", () -> {
            CricketCooperative c = opposed(6, 4);
            c.vote(1, 1);
            checks.same("tones", "0 6", c.tone(0) + " " + c.tone(1));
        });
    }

    private static void otherMotions() {
        checks.test("8, Terms, votes: other motions change nothing", () -> {
            CricketCooperative c = opposed(5, 5);
            c.vote(3, 3);
            String before = View.of(c);
            checks.same("half", false, c.vote(0, 0));
            checks.same("nobody", false, c.vote(4, 1));
            checks.same("the state", before, View.of(c));
        });
    }

    private static void favourOutOfRange() {
        CricketCooperative c = View.withTones(3, 9);
        checks.test("24: sharesInFavour, the tone -1 is too low", () -> checks.refuses(Checks.ARGUMENT,
                c, "sharesInFavour", () -> c.sharesInFavour(-1, 6)));
        checks.test("24: sharesInFavour, the tone 12 is too high", () -> checks.refuses(
                Checks.ARGUMENT, c, "sharesInFavour", () -> c.sharesInFavour(12, 6)));
        checks.test("24: sharesInFavour, tones far out of range", () -> checks.refusesEach(
                Checks.ARGUMENT, c, "tone", Checks.FAR, tone -> c.sharesInFavour(tone, 6)));
        checks.test("24: sharesInFavour, the tolerance -1 is too small", () -> checks.refuses(
                Checks.ARGUMENT, c, "sharesInFavour", () -> c.sharesInFavour(3, -1)));
        checks.test("24: sharesInFavour, the tolerance 7 is too great", () -> checks.refuses(
                Checks.ARGUMENT, c, "sharesInFavour", () -> c.sharesInFavour(3, 7)));
        checks.test("24: sharesInFavour, tolerances far out of range", () -> checks.refusesEach(
                Checks.ARGUMENT, c, "tolerance", Checks.FAR, tolerance -> c.sharesInFavour(3, tolerance)));
    }

    private static void sharesInFavour() {
        CricketCooperative c = opposed(7, 4);
        checks.test("24: sharesInFavour, a tone of 0 and of 11, a tolerance of 0 and of 6", () -> {
            checks.same("0, 0", 7, c.sharesInFavour(0, 0));
            checks.same("0, 6", 11, c.sharesInFavour(0, 6));
            checks.same("11, 0", 0, c.sharesInFavour(11, 0));
            checks.same("11, 6", 11, c.sharesInFavour(11, 6));
        });
        checks.test("24: sharesInFavour, an interval of the tolerance and one more", () -> {
            checks.same("interval 5", 7, c.sharesInFavour(7, 5) - c.sharesInFavour(7, 4));
            checks.same("interval 1", 4, c.sharesInFavour(7, 1));
            checks.same("interval 1", 0, c.sharesInFavour(7, 0));
        });
        checks.test("24: sharesInFavour, without members",
                () -> checks.same("shares", 0, new CricketCooperative().sharesInFavour(0, 6)));
        checks.test("24: sharesInFavour, all 400 shares", () -> checks.same("shares", 400,
                View.withShares(50, 50, 50, 50, 50, 50, 50, 50).sharesInFavour(6, 6)));
        checks.test("24: sharesInFavour is no vote", () -> {
            CricketCooperative voters = opposed(7, 4);
            String before = View.of(voters);
            voters.sharesInFavour(1, 1);
            checks.same("the state", before, View.of(voters));
        });
    }

    private static void carriedTones() {
        checks.test("25: carriedTone, the lowest of several tones", () -> {
            checks.same("5 - 2", 3, View.withTones(5).carriedTone(2));
            checks.same("any", 0, View.withTones(5).carriedTone(6));
        });
        checks.test("25: carriedTone, 0 at the least and 11 at the most", () -> {
            checks.same("lowest", 0, View.withTones(0).carriedTone(0));
            checks.same("highest", 11, View.withTones(11).carriedTone(0));
        });
        checks.test("25: carriedTone, the lowest one around the end of the ring",
                () -> checks.same("11 + 1", 0, View.withTones(11).carriedTone(1)));
        checks.test("25: carriedTone, exactly the quota", () -> {
            checks.same("6 of 11", 0, opposed(6, 5).carriedTone(0));
            checks.same("6 of 11", 6, opposed(5, 6).carriedTone(0));
        });
        checks.test("25: carriedTone is no vote", () -> {
            CricketCooperative c = opposed(5, 6);
            String before = View.of(c);
            checks.same("carriedTone", 5, c.carriedTone(1));
            checks.same("the state", before, View.of(c));
        });
    }

    private static void noCarriedTones() {
        CricketCooperative c = View.withTones(3, 9);
        checks.test("25: carriedTone, the tolerance -1 is too small", () -> checks.refuses(
                Checks.ARGUMENT, c, "carriedTone", () -> c.carriedTone(-1)));
        checks.test("25: carriedTone, the tolerance 7 is too great", () -> checks.refuses(
                Checks.ARGUMENT, c, "carriedTone", () -> c.carriedTone(7)));
        checks.test("25: carriedTone, tolerances far out of range", () -> checks.refusesEach(
                Checks.ARGUMENT, c, "tolerance", Checks.FAR, tolerance -> c.carriedTone(tolerance)));
        checks.test("25: carriedTone, half of the shares is no such tone", () -> {
            checks.refuses(Checks.NO_SUCH, c, "tolerance 0", () -> c.carriedTone(0));
            checks.refuses(Checks.NO_SUCH, c, "tolerance 2", () -> c.carriedTone(2));
            checks.same("tolerance 3", 0, c.carriedTone(3));
        });
        checks.test("25: carriedTone, no such tone without members", () -> {
            CricketCooperative empty = new CricketCooperative();
            checks.refuses(Checks.NO_SUCH, empty, "carriedTone", () -> empty.carriedTone(6));
        });
    }

    private static void quotas() {
        checks.test("26: quota, without members",
                () -> checks.same("quota", 1, new CricketCooperative().quota()));
        checks.test("26: quota, an odd number of shares is rounded down", () -> {
            checks.same("of 1", 1, View.withShares(1).quota());
            checks.same("of 11", 6, View.withShares(5, 6).quota());
        });
        checks.test("26: quota, an even number of shares", () -> {
            checks.same("of 2", 2, View.withShares(2).quota());
            checks.same("of 12", 7, View.withShares(6, 6).quota());
        });
        checks.test("26: quota, all 400 shares", () -> checks.same("quota", 201,
                View.withShares(50, 50, 50, 50, 50, 50, 50, 50).quota()));
        checks.test("26: quota, bought shares count", () -> {
            CricketCooperative c = View.richMember(1, 15);
            c.buyShares(0, 3);
            checks.same("of 4", 3, c.quota());
        });
    }

    private static void winningGroups() {
        checks.test("27: winningGroups, without members",
                () -> checks.same("groups", 0, new CricketCooperative().winningGroups()));
        checks.test("27: winningGroups, one member",
                () -> checks.same("groups", 1, View.withShares(1).winningGroups()));
        checks.test("27: winningGroups, half of the shares does not win",
                () -> checks.same("groups", 1, View.withShares(5, 5).winningGroups()));
        checks.test("27: winningGroups, exactly the quota wins",
                () -> checks.same("groups", 2, View.withShares(6, 5).winningGroups()));
        checks.test("27: winningGroups, eight members of 1 and of 50 shares", () -> {
            checks.same("of 1", 93, View.withShares(1, 1, 1, 1, 1, 1, 1, 1).winningGroups());
            checks.same("of 50", 93,
                    View.withShares(50, 50, 50, 50, 50, 50, 50, 50).winningGroups());
        });
    }

    private static void winningGroupsByTable() {
        checks.test("28: winningGroupsByTable, without members",
                () -> checks.same("groups", 0, new CricketCooperative().winningGroupsByTable()));
        checks.test("28: winningGroupsByTable, one member",
                () -> checks.same("groups", 1, View.withShares(1).winningGroupsByTable()));
        checks.test("28: winningGroupsByTable, half of the shares does not win",
                () -> checks.same("groups", 1, View.withShares(5, 5).winningGroupsByTable()));
        checks.test("28: winningGroupsByTable, exactly the quota wins",
                () -> checks.same("groups", 2, View.withShares(6, 5).winningGroupsByTable()));
        checks.test("28: winningGroupsByTable, eight members of 1 and of 50 shares", () -> {
            checks.same("of 1", 93, View.withShares(1, 1, 1, 1, 1, 1, 1, 1).winningGroupsByTable());
            checks.same("of 50", 93,
                    View.withShares(50, 50, 50, 50, 50, 50, 50, 50).winningGroupsByTable());
        });
        checks.test("28: winningGroupsByTable, the same answer each time", () -> {
            CricketCooperative c = View.withShares(1, 1, 2, 3);
            checks.same("at first", 8, c.winningGroupsByTable());
            checks.same("once more", 8, c.winningGroupsByTable());
        });
        checks.test("28: winningGroupsByTable, fewer shares than the time before", () -> {
            CricketCooperative c = View.withShares(50, 50, 50);
            checks.same("of 150", 4, c.winningGroupsByTable());
            c.undo();
            checks.same("of 100", 1, c.winningGroupsByTable());
            c.undo();
            checks.same("of 50", 1, c.winningGroupsByTable());
            c.undo();
            checks.same("of none", 0, c.winningGroupsByTable());
        });
    }

    private static void powers() {
        checks.test("29: power, the only member joins the empty group",
                () -> checks.same("power", 1, View.withShares(1).power(0)));
        checks.test("29, Terms, power: decisive, exactly the quota with the member", () -> {
            CricketCooperative c = View.withShares(6, 3, 2);
            // quota 6: 6 and none, 3, 2, both together have only 5
            checks.same("of 6 shares", 4, c.power(0));
            checks.same("of 3 shares", 0, c.power(1));
            CricketCooperative even = View.withShares(4, 3, 3);
            // quota 6: 4 with either of the others, and 3 with 3
            checks.same("of 4 shares", 2, even.power(0));
            checks.same("of 3 shares", 2, even.power(2));
        });
        checks.test("29, Terms, power: not decisive, the group wins already", () -> {
            CricketCooperative c = View.withShares(2, 9);
            checks.same("of 2 shares", 0, c.power(0));
            checks.same("of 9 shares", 2, c.power(1));
        });
        checks.test("29, Terms, power: a group with half of the shares does not win", () -> {
            CricketCooperative c = View.withShares(5, 5);
            checks.same("of the first", 1, c.power(0));
            checks.same("of the second", 1, c.power(1));
        });
        checks.test("29: power, eight members of 50 shares", () -> {
            CricketCooperative c = View.withShares(50, 50, 50, 50, 50, 50, 50, 50);
            checks.same("of the first", 35, c.power(0));
            checks.same("of the eighth", 35, c.power(7));
        });
        checks.test("29: power, all groups of eight members", () -> {
            CricketCooperative c = View.withShares(1, 1, 1, 1, 1, 1, 1, 50);
            checks.same("of the eighth", 128, c.power(7));
            checks.same("of the first", 0, c.power(0));
        });
    }

    private static void powersByTable() {
        checks.test("30: powerByTable, the only member joins the empty group",
                () -> checks.same("power", 1, View.withShares(1).powerByTable(0)));
        checks.test("30, Terms, power: decisive, exactly the quota with the member", () -> {
            CricketCooperative c = View.withShares(6, 3, 2);
            checks.same("of 6 shares", 4, c.powerByTable(0));
            checks.same("of 3 shares", 0, c.powerByTable(1));
            CricketCooperative even = View.withShares(4, 3, 3);
            checks.same("of 4 shares", 2, even.powerByTable(0));
            checks.same("of 3 shares", 2, even.powerByTable(2));
        });
        checks.test("30, Terms, power: not decisive, the group wins already", () -> {
            CricketCooperative c = View.withShares(2, 9);
            checks.same("of 2 shares", 0, c.powerByTable(0));
            checks.same("of 9 shares", 2, c.powerByTable(1));
        });
        checks.test("30, Terms, power: a group with half of the shares does not win", () -> {
            CricketCooperative c = View.withShares(5, 5);
            checks.same("of the first", 1, c.powerByTable(0));
            checks.same("of the second", 1, c.powerByTable(1));
        });
        checks.test("30: powerByTable, eight members of 50 shares", () -> {
            CricketCooperative c = View.withShares(50, 50, 50, 50, 50, 50, 50, 50);
            checks.same("of the first", 35, c.powerByTable(0));
            checks.same("of the eighth", 35, c.powerByTable(7));
        });
        checks.test("30: powerByTable, the same answer each time, and for each member its own", () -> {
            CricketCooperative c = View.withShares(1, 1, 2, 3);
            for (int round = 0; round < 2; round++) {
                checks.same("of the first", 2, c.powerByTable(0));
                checks.same("of the second", 2, c.powerByTable(1));
                checks.same("of the third", 2, c.powerByTable(2));
                checks.same("of the fourth", 6, c.powerByTable(3));
            }
        });
        checks.test("30: powerByTable, a member with more shares than the quota", () -> {
            CricketCooperative c = View.withShares(1, 1, 1, 1, 1, 1, 1, 50);
            checks.same("of the eighth", 128, c.powerByTable(7));
            checks.same("of the first", 0, c.powerByTable(0));
        });
    }

    private static void powersOfNobody() {
        CricketCooperative c = View.withShares(2, 1);
        CricketCooperative empty = new CricketCooperative();
        checks.test("29: power, no such member", () -> {
            checks.throwsExactly(Checks.INDEX, "-1", () -> c.power(-1));
            checks.throwsExactly(Checks.INDEX, "m", () -> c.power(2));
            checks.throwsExactly(Checks.INDEX, "without members", () -> empty.power(0));
            checks.refusesEach(Checks.INDEX, c, "member", Checks.NOBODY, member -> c.power(member));
        });
        checks.test("30: powerByTable, no such member", () -> {
            checks.throwsExactly(Checks.INDEX, "-1", () -> c.powerByTable(-1));
            checks.throwsExactly(Checks.INDEX, "m", () -> c.powerByTable(2));
            checks.throwsExactly(Checks.INDEX, "without members", () -> empty.powerByTable(0));
            checks.refusesEach(Checks.INDEX, c, "member", Checks.NOBODY, member -> c.powerByTable(member));
        });
    }

    private static void smallestMajorities() {
        checks.test("31: smallestMajority, there are no members", () -> {
            CricketCooperative empty = new CricketCooperative();
            checks.refuses(Checks.NO_SUCH, empty, "smallestMajority", empty::smallestMajority);
        });
        checks.test("31: smallestMajority, 1 member at the least", () -> {
            checks.same("the only one", 1, View.withShares(1).smallestMajority());
            checks.same("exactly the quota", 1, View.withShares(5, 6).smallestMajority());
        });
        checks.test("31: smallestMajority, all members, half of the shares being too few",
                () -> checks.same("two", 2, View.withShares(5, 5).smallestMajority()));
        checks.test("31: smallestMajority, eight members of 50 shares", () -> checks.same("of 50", 5,
                View.withShares(50, 50, 50, 50, 50, 50, 50, 50).smallestMajority()));
        checks.test("31: smallestMajority, the members with the most shares joined last",
                () -> checks.same("two", 2,
                        View.withShares(1, 2, 3, 4, 5, 6, 40, 40).smallestMajority()));
    }
}
