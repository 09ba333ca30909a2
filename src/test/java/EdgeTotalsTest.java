/** The boundary cases of promises 32 to 42, a test for each sentence: the totals. */
public final class EdgeTotalsTest {
    private static final Checks checks = new Checks();

    public static void main(String[] args) {
        beats();
        surplus();
        houseTones();
        quarters();
        coins();
        chirps();
        spoiltBeats();
        tenSpoiltBeats();
        meanPurses();
        powerShares();
        powerSharesOfNobody();
        invariants();
        checks.end();
    }

    /** Two members who spoil every even beat, with full springs. */
    private static CricketCooperative clashing() {
        CricketCooperative c = View.withTones(0, 6);
        c.wind(0, 60);
        c.wind(1, 60);
        return c;
    }

    private static void beats() {
        checks.test("32: beat, 0 at first",
                () -> checks.same("beat", 0, new CricketCooperative().beat()));
        checks.test("32: beat, a refused call lets no beat go by", () -> {
            CricketCooperative c = new CricketCooperative();
            c.passBeats(2);
            checks.throwsExactly(Checks.ARGUMENT, "61", () -> c.passBeats(61));
            checks.same("beat", 2, c.beat());
        });
        checks.test("32: beat, as many as 500 calls let go by", () -> {
            CricketCooperative c = new CricketCooperative();
            for (int call = 0; call < 500; call++) {
                c.passBeats(60);
            }
            checks.same("beat", 30000, c.beat());
        });
    }

    private static void surplus() {
        checks.test("33: surplus, 0 at first and 0 after a quarter", () -> {
            CricketCooperative c = View.withShares(3, 4);
            checks.same("at first", 0, c.surplus());
            c.wind(0, 5);
            c.passBeats(10);
            checks.same("later", 5, c.surplus());
            c.endQuarter();
            checks.same("after a quarter", 0, c.surplus());
        });
    }

    private static void houseTones() {
        checks.test("34: houseTone, 0 at first, also with members of other tones",
                () -> checks.same("houseTone", 0, View.withTones(5, 7).houseTone()));
        checks.test("34: houseTone, 11 at the most", () -> {
            CricketCooperative c = View.withTones(11);
            c.vote(11, 0);
            checks.same("houseTone", 11, c.houseTone());
        });
        checks.test("34: houseTone, a motion that is not carried leaves it", () -> {
            CricketCooperative c = View.withTones(11);
            c.vote(11, 0);
            c.vote(4, 4);
            checks.same("houseTone", 11, c.houseTone());
        });
    }

    private static void quarters() {
        checks.test("35: quarters, 0 at first", () -> checks.same("quarters", 0,
                View.withShares(1).quarters()));
        checks.test("35: quarters, a quarter without coins counts", () -> {
            CricketCooperative c = View.withShares(1);
            c.endQuarter();
            c.endQuarter();
            checks.same("quarters", 2, c.quarters());
        });
        checks.test("35: quarters, a refused quarter does not count", () -> {
            CricketCooperative c = new CricketCooperative();
            checks.throwsExactly(Checks.STATE, "endQuarter", c::endQuarter);
            checks.same("quarters", 0, c.quarters());
        });
        checks.test("35: quarters, an undone quarter does not count", () -> {
            CricketCooperative c = View.withShares(1);
            c.endQuarter();
            c.undo();
            checks.same("quarters", 0, c.quarters());
        });
    }

    private static void coinsAre(CricketCooperative c, int due) {
        checks.same("coinTotal", due, c.coinTotal());
        checks.same("coinsByAccounts", due, c.coinsByAccounts());
    }

    private static void coins() {
        checks.test("36, 37: coinTotal and coinsByAccounts, without members",
                () -> coinsAre(new CricketCooperative(), 0));
        checks.test("36, 37: coinTotal and coinsByAccounts, surplus and purses together", () -> {
            CricketCooperative c = View.richMember(1, 20);
            c.wind(0, 3);
            c.passBeats(6);
            coinsAre(c, 23);
        });
        checks.test("36, 37: coinTotal and coinsByAccounts, spoilt beats earn nothing", () -> {
            CricketCooperative c = clashing();
            c.passBeats(60);
            coinsAre(c, 0);
        });
        checks.test("36, 37: coinTotal and coinsByAccounts, a purchase earns nothing", () -> {
            CricketCooperative c = View.richMember(1, 245);
            c.buyShares(0, 49);
            coinsAre(c, 245);
        });
        checks.test("36, 37: coinTotal and coinsByAccounts, undone beats have earned nothing", () -> {
            CricketCooperative c = View.withShares(1);
            c.wind(0, 30);
            c.passBeats(2);
            c.passBeats(10);
            c.undo();
            coinsAre(c, 1);
        });
        checks.test("36, 37: coinTotal and coinsByAccounts, the purses of all eight members", () -> {
            CricketCooperative c = View.withShares(1, 2, 3, 4, 5, 6, 7, 8);
            c.wind(7, 60);
            c.passBeats(60);
            c.passBeats(60);
            c.endQuarter();
            coinsAre(c, 60);
        });
    }

    private static void chirps() {
        checks.test("38: chirps, 0 at first and without springs", () -> {
            CricketCooperative c = View.withShares(1, 1);
            checks.same("at first", 0, c.chirps());
            c.passBeats(60);
            checks.same("without springs", 0, c.chirps());
        });
        checks.test("38: chirps, those in spoilt beats count", () -> {
            CricketCooperative c = clashing();
            c.passBeats(4);
            checks.same("chirps", 4, c.chirps());
        });
        checks.test("38: chirps, undone ones do not count", () -> {
            CricketCooperative c = clashing();
            c.passBeats(4);
            c.undo();
            checks.same("chirps", 0, c.chirps());
        });
        checks.test("38: chirps, predicted ones do not count", () -> {
            CricketCooperative c = clashing();
            c.earningsIn(60);
            checks.same("chirps", 0, c.chirps());
        });
    }

    private static void spoiltBeats() {
        checks.test("39: spoiltBeat, position 0 is the latest one", () -> {
            CricketCooperative c = clashing();
            c.passBeats(7);
            checks.same("position 0", 6, c.spoiltBeat(0));
            checks.same("position 2", 2, c.spoiltBeat(2));
        });
        checks.test("39: spoiltBeat, no beat is kept", () -> {
            CricketCooperative c = View.withShares(1);
            checks.refuses(Checks.INDEX, c, "spoiltBeat", () -> c.spoiltBeat(0));
        });
        checks.test("39: spoiltBeat, position -1 is negative", () -> {
            CricketCooperative c = clashing();
            c.passBeats(7);
            checks.refuses(Checks.INDEX, c, "spoiltBeat", () -> c.spoiltBeat(-1));
        });
        checks.test("39: spoiltBeat, a position that is the number of kept beats", () -> {
            CricketCooperative c = clashing();
            c.passBeats(7);
            checks.refuses(Checks.INDEX, c, "spoiltBeat", () -> c.spoiltBeat(3));
        });
        checks.test("39: spoiltBeat, positions far away", () -> {
            CricketCooperative c = clashing();
            c.passBeats(7);
            checks.refusesEach(Checks.INDEX, c, "position", Checks.NOBODY, position -> c.spoiltBeat(position));
        });
        checks.test("39: spoiltBeat, undone beats are not kept", () -> {
            CricketCooperative c = clashing();
            c.passBeats(2);
            c.passBeats(2);
            c.undo();
            checks.same("spoilt", "2 ", View.spoiltBeats(c));
            c.undo();
            checks.same("spoilt", "", View.spoiltBeats(c));
        });
    }

    private static void tenSpoiltBeats() {
        checks.test("39: spoiltBeat, ten beats are kept", () -> {
            CricketCooperative c = clashing();
            c.passBeats(20);
            checks.same("spoilt", "20 18 16 14 12 10 8 6 4 2 ", View.spoiltBeats(c));
            checks.same("position 9", 2, c.spoiltBeat(9));
        });
        checks.test("39: spoiltBeat, the eleventh beat takes the place of the first", () -> {
            CricketCooperative c = clashing();
            c.passBeats(22);
            checks.same("spoilt", "22 20 18 16 14 12 10 8 6 4 ", View.spoiltBeats(c));
            checks.refuses(Checks.INDEX, c, "spoiltBeat", () -> c.spoiltBeat(10));
        });
        checks.test("39: spoiltBeat, undo brings back the one whose place was taken", () -> {
            CricketCooperative c = clashing();
            c.passBeats(20);
            c.passBeats(2);
            c.undo();
            checks.same("position 9", 2, c.spoiltBeat(9));
        });
    }

    private static void meanPurses() {
        checks.test("40: meanPurse, there are no members", () -> {
            CricketCooperative empty = new CricketCooperative();
            checks.refuses(Checks.ARITHMETIC, empty, "meanPurse", empty::meanPurse);
        });
        checks.test("40: meanPurse, empty purses",
                () -> checks.same("meanPurse", 0.0, View.withShares(1, 2).meanPurse()));
        checks.test("40: meanPurse, a mean that is no whole number", () -> {
            CricketCooperative c = View.withShares(1, 1, 1);
            c.wind(0, 10);
            c.passBeats(20);
            c.endQuarter();
            checks.same("meanPurse", 10.0 / 3.0, c.meanPurse());
        });
        checks.test("40: meanPurse, the surplus is in no purse", () -> {
            CricketCooperative c = View.withShares(1);
            c.wind(0, 10);
            c.passBeats(20);
            checks.same("meanPurse", 0.0, c.meanPurse());
        });
    }

    private static void powerShares() {
        checks.test("41: powerShare, the only member has all power",
                () -> checks.same("powerShare", 1.0f, View.withShares(1).powerShare(0)));
        checks.test("41: powerShare, a member without power", () -> {
            checks.same("powerShare", 0.0f, View.withShares(2, 9).powerShare(0));
            checks.same("powerShare", 1.0f, View.withShares(2, 9).powerShare(1));
        });
        checks.test("41: powerShare, no whole number",
                () -> checks.same("powerShare", 1.0f / 3.0f, View.withShares(1, 1, 1).powerShare(2)));
        checks.test("41: powerShare, the eighth of eight members", () -> checks.same("powerShare",
                35.0f / 280.0f, View.withShares(1, 1, 1, 1, 1, 1, 1, 1).powerShare(7)));
    }

    private static void powerSharesOfNobody() {
        CricketCooperative c = View.withShares(2, 1);
        checks.test("41: powerShare, no member -1", () -> checks.refuses(Checks.INDEX, c, "powerShare",
                () -> c.powerShare(-1)));
        checks.test("41: powerShare, no member m", () -> checks.refuses(Checks.INDEX, c, "powerShare",
                () -> c.powerShare(2)));
        checks.test("41: powerShare, no member without members", () -> {
            CricketCooperative empty = new CricketCooperative();
            checks.refuses(Checks.INDEX, empty, "powerShare", () -> empty.powerShare(0));
        });
        checks.test("41: powerShare, no members far away", () -> checks.refusesEach(Checks.INDEX, c,
                "member", Checks.NOBODY, member -> c.powerShare(member)));
    }

    private static void invariants() {
        checks.test("42: isConsistent, without members", () -> {
            CricketCooperative empty = new CricketCooperative();
            checks.same("at first", true, empty.isConsistent());
            empty.passBeats(60);
            checks.same("later", true, empty.isConsistent());
        });
        checks.test("42: isConsistent, with a surplus, and without members once all is undone", () -> {
            CricketCooperative c = View.withShares(1);
            c.wind(0, 5);
            c.passBeats(10);
            checks.same("with the surplus", true, c.isConsistent());
            c.undo();
            c.undo();
            c.undo();
            checks.same("after the undoing", true, c.isConsistent());
        });
        checks.test("42: isConsistent, eight members with all that they can have", () -> {
            CricketCooperative c = new CricketCooperative();
            for (int member = 0; member < 8; member++) {
                c.addMember(50 - member, 12 - member, 11 - member, 2 * member % 12);
                c.wind(member, 60);
            }
            c.passBeats(60);
            c.endQuarter();
            c.passBeats(59);
            checks.same("isConsistent", true, c.isConsistent());
        });
        checks.test("42: isConsistent changes nothing", () -> {
            CricketCooperative c = clashing();
            c.addMember(3, 3, 0, 3);
            c.wind(2, 30);
            c.passBeats(60);
            String before = View.of(c);
            checks.same("isConsistent", true, c.isConsistent());
            checks.same("the state", before, View.of(c));
        });
    }
}
