/** The boundary cases of promises 6 and 17 to 21, a test for each sentence: tones and beats. */
public final class EdgeBeatsTest {
    private static final Checks checks = new Checks();

    public static void main(String[] args) {
        numberOfBeats();
        returnedCoins();
        firstBeats();
        springs();
        tonesThatClash();
        tonesThatDoNot();
        spoiltBeats();
        dueBeats();
        dueBeatsByDoubling();
        dueBeatsOfNobody();
        commonBeats();
        chorus();
        noChorus();
        numberOfPredictedBeats();
        predictedCoins();
        checks.end();
    }

    /** One member who is due at every even beat, with a full spring. */
    private static CricketCooperative evenMember() {
        CricketCooperative c = View.withShares(1);
        c.wind(0, 60);
        return c;
    }

    private static CricketCooperative memberWith(int period, int phase) {
        CricketCooperative c = new CricketCooperative();
        c.addMember(1, period, phase, 0);
        return c;
    }

    private static void numberOfBeats() {
        CricketCooperative c = evenMember();
        checks.test("6: passBeats, 0 beats are too few", () -> checks.refuses(Checks.ARGUMENT, c,
                "passBeats", () -> c.passBeats(0)));
        checks.test("6: passBeats, -1 beats are too few", () -> checks.refuses(Checks.ARGUMENT, c,
                "passBeats", () -> c.passBeats(-1)));
        checks.test("6: passBeats, 61 beats are too many", () -> checks.refuses(Checks.ARGUMENT, c,
                "passBeats", () -> c.passBeats(61)));
        checks.test("6: passBeats, beats far out of range", () -> checks.refusesEach(Checks.ARGUMENT,
                c, "beats", Checks.FAR, beats -> c.passBeats(beats)));
        checks.test("6: passBeats, 1 beat is enough", () -> {
            checks.same("passBeats", 0, c.passBeats(1));
            checks.same("beat", 1, c.beat());
        });
        checks.test("6: passBeats, 60 beats are not too many", () -> {
            checks.same("passBeats", 30, c.passBeats(60));
            checks.same("beat", 61, c.beat());
        });
    }

    private static void returnedCoins() {
        checks.test("6: passBeats returns the increase, not the surplus", () -> {
            CricketCooperative c = evenMember();
            c.passBeats(10);
            checks.same("passBeats", 2, c.passBeats(4));
            checks.same("surplus", 7, c.surplus());
        });
        checks.test("6: passBeats without members goes on and earns nothing", () -> {
            CricketCooperative c = new CricketCooperative();
            checks.same("passBeats", 0, c.passBeats(60));
            checks.same("beat", 60, c.beat());
            checks.same("surplus", 0, c.surplus());
        });
        checks.test("6: passBeats, the increase is 0 if all beats are spoilt", () -> {
            CricketCooperative c = View.withTones(0, 1);
            c.wind(0, 60);
            c.wind(1, 60);
            checks.same("passBeats", 0, c.passBeats(60));
            checks.same("chirps", 60, c.chirps());
        });
    }

    private static void firstBeats() {
        checks.test("6, Terms, beats: the number increases first, so beat 0 is not heard", () -> {
            CricketCooperative c = memberWith(2, 0);
            c.wind(0, 9);
            checks.same("beat 1", 0, c.passBeats(1));
            checks.same("beat 2", 1, c.passBeats(1));
        });
        checks.test("6, Terms, beats: a phase of 1 is due at the very first beat", () -> {
            CricketCooperative c = memberWith(12, 1);
            c.wind(0, 9);
            checks.same("beat 1", 1, c.passBeats(1));
        });
        checks.test("6, Terms, beats: beats before the phase are not due", () -> {
            CricketCooperative c = memberWith(12, 11);
            c.wind(0, 9);
            checks.same("beats 1 to 10", 0, c.passBeats(10));
            checks.same("beat 11", 1, c.passBeats(1));
        });
        checks.test("6, Terms, beats: due again after the period, not a beat earlier or later", () -> {
            CricketCooperative c = memberWith(5, 3);
            c.wind(0, 9);
            checks.same("beats 1 to 3", 1, c.passBeats(3));
            checks.same("beats 4 to 7", 0, c.passBeats(4));
            checks.same("beat 8", 1, c.passBeats(1));
            checks.same("beats 9 to 12", 0, c.passBeats(4));
        });
        checks.test("6, Terms, beats: a late member is due by the beat's number, not its age", () -> {
            CricketCooperative c = new CricketCooperative();
            c.passBeats(5);
            c.addMember(1, 3, 1, 0);
            c.wind(0, 9);
            checks.same("beat 6", 0, c.passBeats(1));
            checks.same("beat 7", 1, c.passBeats(1));
        });
    }

    private static void springs() {
        checks.test("6, Terms, beats: a spring of 0 turns does not chirp", () -> {
            CricketCooperative c = View.withShares(1);
            checks.same("passBeats", 0, c.passBeats(2));
            checks.same("chirps", 0, c.chirps());
            checks.same("spring", 0, c.spring(0));
        });
        checks.test("6, Terms, beats: a spring of 1 turn chirps, and then has 0 turns", () -> {
            CricketCooperative c = View.withShares(1);
            c.wind(0, 1);
            checks.same("passBeats", 1, c.passBeats(2));
            checks.same("spring", 0, c.spring(0));
            checks.same("the next time", 0, c.passBeats(2));
            checks.same("spring", 0, c.spring(0));
        });
        checks.test("6, Terms, beats: a member who is not due keeps its spring", () -> {
            CricketCooperative c = evenMember();
            c.passBeats(1);
            checks.same("spring", 60, c.spring(0));
        });
        checks.test("6, Terms, beats: the earnings are 1 coin for each who chirps", () -> {
            CricketCooperative c = View.withTones(0, 0, 2, 3, 4, 5, 4, 2);
            c.wind(0, 1);
            c.wind(1, 1);
            checks.same("two of eight", 2, c.passBeats(2));
            CricketCooperative eight = View.withShares(1, 1, 1, 1, 1, 1, 1, 1);
            for (int member = 0; member < 8; member++) {
                eight.wind(member, 1);
            }
            checks.same("eight", 8, eight.passBeats(2));
        });
    }

    private static int coinsOfTones(int one, int other) {
        CricketCooperative c = View.withTones(one, other);
        c.wind(0, 1);
        c.wind(1, 1);
        return c.passBeats(2);
    }

    private static void tonesThatClash() {
        checks.test("6, Terms, tones: an interval of 1 clashes", () -> {
            for (int tone = 0; tone < 11; tone++) {
                checks.same("upwards from " + tone, 0, coinsOfTones(tone, tone + 1));
                checks.same("downwards to " + tone, 0, coinsOfTones(tone + 1, tone));
            }
        });
        checks.test("6, Terms, tones: 11 and 0 clash around the ring", () -> {
            checks.same("11 and 0", 0, coinsOfTones(11, 0));
            checks.same("0 and 11", 0, coinsOfTones(0, 11));
        });
        checks.test("6, Terms, tones: an interval of 6 clashes", () -> {
            for (int tone = 0; tone < 6; tone++) {
                checks.same("upwards from " + tone, 0, coinsOfTones(tone, tone + 6));
                checks.same("downwards to " + tone, 0, coinsOfTones(tone + 6, tone));
            }
        });
    }

    private static void tonesThatDoNot() {
        checks.test("6, Terms, tones: an interval of 0 does not clash", () -> {
            for (int tone = 0; tone < 12; tone++) {
                checks.same("tone " + tone, 2, coinsOfTones(tone, tone));
            }
        });
        checks.test("6, Terms, tones: an interval of 2 does not clash", () -> doesNotClash(2));
        checks.test("6, Terms, tones: an interval of 3 or 4 does not clash", () -> {
            doesNotClash(3);
            doesNotClash(4);
        });
        checks.test("6, Terms, tones: an interval of 5 does not clash", () -> doesNotClash(5));
    }

    private static void doesNotClash(int steps) {
        for (int tone = 0; tone < 12; tone++) {
            checks.same("from " + tone, 2, coinsOfTones(tone, (tone + steps) % 12));
            checks.same("back to " + tone, 2, coinsOfTones((tone + steps) % 12, tone));
        }
    }

    /** A beat in which members 0 and 2 clash, and member 1 with neither; another one follows. */
    private static CricketCooperative spoiltByTwoOfThree() {
        CricketCooperative c = View.withTones(0, 3, 6);
        c.wind(0, 1);
        c.wind(1, 5);
        c.wind(2, 1);
        return c;
    }

    private static void spoiltBeats() {
        checks.test("6, Terms, beats: two who clash spoil the beat for a third", () -> {
            CricketCooperative c = spoiltByTwoOfThree();
            checks.same("passBeats", 0, c.passBeats(2));
            checks.same("surplus", 0, c.surplus());
            checks.same("the next beats", 2, c.passBeats(4));
        });
        checks.test("6, Terms, beats: in a spoilt beat each chirps and loses a turn", () -> {
            CricketCooperative c = spoiltByTwoOfThree();
            c.passBeats(2);
            checks.same("springs", "0 4 0", c.spring(0) + " " + c.spring(1) + " " + c.spring(2));
            checks.same("chirps", 3, c.chirps());
        });
        checks.test("6, Terms, beats: a spoilt beat leaves a surplus as it is", () -> {
            CricketCooperative c = evenMember();
            c.passBeats(8);
            c.addMember(1, 2, 0, 6);
            c.wind(1, 1);
            checks.same("passBeats", 0, c.passBeats(2));
            checks.same("surplus", 4, c.surplus());
            checks.same("spoilt", "10 ", View.spoiltBeats(c));
        });
        checks.test("6, Terms, beats: a member without a spring does not clash", () -> {
            CricketCooperative c = View.withTones(0, 1);
            c.wind(0, 1);
            checks.same("passBeats", 1, c.passBeats(2));
            checks.same("spoilt", "", View.spoiltBeats(c));
        });
        checks.test("6, Terms, beats: a member who is not due does not clash", () -> {
            CricketCooperative c = View.withTones(0);
            c.addMember(1, 2, 1, 6);
            c.wind(0, 1);
            c.wind(1, 1);
            checks.same("passBeats", 2, c.passBeats(2));
            checks.same("spoilt", "", View.spoiltBeats(c));
        });
        checks.test("6, Terms, beats: a silent beat is not spoilt", () -> {
            CricketCooperative c = View.withTones(0, 1);
            c.passBeats(2);
            checks.same("spoilt", "", View.spoiltBeats(c));
        });
    }

    private static void dueBeats() {
        checks.test("17: dueBeats, k = 0 is the next beat", () -> {
            CricketCooperative c = memberWith(12, 1);
            checks.same("lowest", 1L, c.dueBeats(0) & 4095);
            c.passBeats(59);
            checks.same("lowest", 2L, c.dueBeats(0) & 4095);
        });
        checks.test("17: dueBeats, k = 59 is the last beat", () -> {
            CricketCooperative c = memberWith(12, 0);
            checks.same("highest", 1L << 59, Long.highestOneBit(c.dueBeats(0)));
            c.passBeats(1);
            checks.same("highest", 1L << 58, Long.highestOneBit(c.dueBeats(0)));
        });
        checks.test("17: dueBeats, the 61st beat does not count", () -> {
            CricketCooperative c = memberWith(12, 1);
            checks.same("dueBeats", 1L | 1L << 12 | 1L << 24 | 1L << 36 | 1L << 48, c.dueBeats(0));
            CricketCooperative even = memberWith(2, 1);
            checks.same("dueBeats", 0x0555555555555555L, even.dueBeats(0));
        });
        checks.test("17: dueBeats, the present beat does not count", () -> {
            CricketCooperative c = memberWith(12, 0);
            checks.same("dueBeats", 1L << 11 | 1L << 23 | 1L << 35 | 1L << 47 | 1L << 59,
                    c.dueBeats(0));
        });
        checks.test("17: dueBeats, whatever the spring is", () -> {
            CricketCooperative c = memberWith(2, 0);
            checks.same("no turns", 0x0AAAAAAAAAAAAAAAL, c.dueBeats(0));
            c.wind(0, 1);
            checks.same("1 turn", 0x0AAAAAAAAAAAAAAAL, c.dueBeats(0));
        });
    }

    private static void dueBeatsByDoubling() {
        checks.test("18: dueBeatsByDoubling, k = 0 is the next beat", () -> {
            CricketCooperative c = memberWith(12, 1);
            checks.same("lowest", 1L, c.dueBeatsByDoubling(0) & 4095);
            c.passBeats(59);
            checks.same("lowest", 2L, c.dueBeatsByDoubling(0) & 4095);
        });
        checks.test("18: dueBeatsByDoubling, k = 59 is the last beat", () -> {
            CricketCooperative c = memberWith(12, 0);
            checks.same("highest", 1L << 59, Long.highestOneBit(c.dueBeatsByDoubling(0)));
            c.passBeats(1);
            checks.same("highest", 1L << 58, Long.highestOneBit(c.dueBeatsByDoubling(0)));
        });
        checks.test("18: dueBeatsByDoubling, the 61st beat does not count", () -> {
            checks.same("period 2", 0x0555555555555555L, memberWith(2, 1).dueBeatsByDoubling(0));
            checks.same("period 4", 0x0111111111111111L, memberWith(4, 1).dueBeatsByDoubling(0));
        });
        checks.test("18: dueBeatsByDoubling, the present beat does not count", () -> {
            CricketCooperative c = memberWith(12, 0);
            checks.same("dueBeatsByDoubling",
                    1L << 11 | 1L << 23 | 1L << 35 | 1L << 47 | 1L << 59, c.dueBeatsByDoubling(0));
        });
        checks.test("18: dueBeatsByDoubling, whatever the spring is", () -> {
            CricketCooperative c = memberWith(2, 0);
            checks.same("no turns", 0x0AAAAAAAAAAAAAAAL, c.dueBeatsByDoubling(0));
            c.wind(0, 1);
            checks.same("1 turn", 0x0AAAAAAAAAAAAAAAL, c.dueBeatsByDoubling(0));
        });
        checks.test("17, 18: both ways agree for the shortest and the longest period", () -> {
            int[][] members = {{2, 0}, {2, 1}, {12, 0}, {12, 11}, {11, 10}};
            for (int[] row : members) {
                CricketCooperative c = memberWith(row[0], row[1]);
                for (int beat = 0; beat < 24; beat++) {
                    checks.same("beat " + beat, c.dueBeats(0), c.dueBeatsByDoubling(0));
                    c.passBeats(1);
                }
            }
        });
    }

    private static void dueBeatsOfNobody() {
        CricketCooperative c = View.withShares(1, 1);
        CricketCooperative empty = new CricketCooperative();
        checks.test("17: dueBeats, no such member", () -> {
            checks.throwsExactly(Checks.INDEX, "-1", () -> c.dueBeats(-1));
            checks.throwsExactly(Checks.INDEX, "m", () -> c.dueBeats(2));
            checks.throwsExactly(Checks.INDEX, "without members", () -> empty.dueBeats(0));
            checks.refusesEach(Checks.INDEX, c, "member", Checks.NOBODY, member -> c.dueBeats(member));
        });
        checks.test("18: dueBeatsByDoubling, no such member", () -> {
            checks.throwsExactly(Checks.INDEX, "-1", () -> c.dueBeatsByDoubling(-1));
            checks.throwsExactly(Checks.INDEX, "m", () -> c.dueBeatsByDoubling(2));
            checks.throwsExactly(Checks.INDEX, "without members", () -> empty.dueBeatsByDoubling(0));
            checks.refusesEach(Checks.INDEX, c, "member", Checks.NOBODY,
                    member -> c.dueBeatsByDoubling(member));
        });
    }

    private static CricketCooperative twoMembers(int period, int phase, int period2, int phase2) {
        CricketCooperative c = memberWith(period, phase);
        c.addMember(1, period2, phase2, 0);
        return c;
    }

    private static void commonBeats() {
        checks.test("19: commonBeats, the first of the 60 beats counts",
                () -> checks.same("beat 1", 1, twoMembers(9, 1, 7, 1).commonBeats(0, 1)));
        checks.test("19: commonBeats, the last of the 60 beats counts",
                () -> checks.same("beat 60", 1, twoMembers(10, 0, 12, 0).commonBeats(1, 0)));
        checks.test("19: commonBeats, the 61st beat does not count",
                () -> checks.same("beats 1 and 61", 1, twoMembers(10, 1, 12, 1).commonBeats(0, 1)));
        checks.test("19: commonBeats, the present beat does not count",
                () -> checks.same("beats 0 and 63", 0, twoMembers(9, 0, 7, 0).commonBeats(0, 1)));
        checks.test("19: commonBeats, no beats",
                () -> checks.same("odd and even", 0, twoMembers(2, 0, 2, 1).commonBeats(0, 1)));
        checks.test("19: commonBeats, possibly the same member", () -> {
            CricketCooperative c = twoMembers(2, 0, 7, 6);
            checks.same("period 2", 30, c.commonBeats(0, 0));
            checks.same("period 7", 8, c.commonBeats(1, 1));
        });
        checks.test("19: commonBeats, whatever the springs are", () -> {
            CricketCooperative c = twoMembers(2, 0, 3, 0);
            checks.same("no turns", 10, c.commonBeats(0, 1));
            c.wind(0, 1);
            checks.same("1 turn", 10, c.commonBeats(0, 1));
        });
        CricketCooperative c = twoMembers(2, 0, 3, 0);
        checks.test("19: commonBeats, no such member for one", () -> {
            checks.throwsExactly(Checks.INDEX, "-1", () -> c.commonBeats(-1, 0));
            checks.throwsExactly(Checks.INDEX, "m", () -> c.commonBeats(2, 0));
            checks.refusesEach(Checks.INDEX, c, "member", Checks.NOBODY, one -> c.commonBeats(one, 0));
        });
        checks.test("19: commonBeats, no such member for the other", () -> {
            checks.throwsExactly(Checks.INDEX, "-1", () -> c.commonBeats(0, -1));
            checks.throwsExactly(Checks.INDEX, "m", () -> c.commonBeats(0, 2));
            checks.refusesEach(Checks.INDEX, c, "member", Checks.NOBODY, other -> c.commonBeats(0, other));
        });
        checks.test("19: commonBeats, no such member without members", () -> {
            CricketCooperative empty = new CricketCooperative();
            checks.throwsExactly(Checks.INDEX, "commonBeats", () -> empty.commonBeats(0, 0));
        });
    }

    private static void chorus() {
        checks.test("20: beatsUntilChorus, 1 beat at the least",
                () -> checks.same("beat 1", 1, twoMembers(9, 1, 7, 1).beatsUntilChorus()));
        checks.test("20: beatsUntilChorus, 60 beats at the most",
                () -> checks.same("beat 60", 60, twoMembers(10, 0, 12, 0).beatsUntilChorus()));
        checks.test("20: beatsUntilChorus, the present beat does not count", () -> {
            CricketCooperative c = twoMembers(2, 0, 3, 0);
            checks.same("at beat 0", 6, c.beatsUntilChorus());
            c.passBeats(6);
            checks.same("at beat 6", 6, c.beatsUntilChorus());
        });
        checks.test("20: beatsUntilChorus, one member is all members",
                () -> checks.same("beat 11", 11, memberWith(12, 11).beatsUntilChorus()));
        checks.test("20: beatsUntilChorus, all eight members", () -> {
            CricketCooperative c = new CricketCooperative();
            for (int member = 0; member < 7; member++) {
                c.addMember(1, 2, 0, 0);
            }
            c.addMember(1, 9, 3, 0);
            checks.same("beat 12", 12, c.beatsUntilChorus());
        });
        checks.test("20: beatsUntilChorus, whatever the springs are", () -> {
            CricketCooperative c = twoMembers(2, 0, 3, 0);
            c.wind(0, 1);
            checks.same("beat 6", 6, c.beatsUntilChorus());
        });
    }

    private static void noChorus() {
        checks.test("20: beatsUntilChorus, no members", () -> {
            CricketCooperative empty = new CricketCooperative();
            checks.refuses(Checks.NO_SUCH, empty, "beatsUntilChorus", empty::beatsUntilChorus);
        });
        checks.test("20: beatsUntilChorus, the 61st beat is too late", () -> {
            CricketCooperative c = twoMembers(9, 7, 7, 5);
            checks.refuses(Checks.NO_SUCH, c, "beat 61", c::beatsUntilChorus);
            c.passBeats(1);
            checks.same("a beat later", 60, c.beatsUntilChorus());
        });
        checks.test("20: beatsUntilChorus, it never happens", () -> {
            CricketCooperative c = twoMembers(2, 0, 2, 1);
            checks.refuses(Checks.NO_SUCH, c, "beatsUntilChorus", c::beatsUntilChorus);
        });
    }

    private static void numberOfPredictedBeats() {
        CricketCooperative c = evenMember();
        checks.test("21: earningsIn, -1 beats are too few", () -> checks.refuses(Checks.ARGUMENT, c,
                "earningsIn", () -> c.earningsIn(-1)));
        checks.test("21: earningsIn, 61 beats are too many", () -> checks.refuses(Checks.ARGUMENT, c,
                "earningsIn", () -> c.earningsIn(61)));
        checks.test("21: earningsIn, beats far out of range", () -> checks.refusesEach(Checks.ARGUMENT,
                c, "beats", Checks.FAR, beats -> c.earningsIn(beats)));
        checks.test("21: earningsIn, 0 beats are not too few",
                () -> checks.same("earningsIn", 0, c.earningsIn(0)));
        checks.test("21: earningsIn, 60 beats are not too many",
                () -> checks.same("earningsIn", 30, c.earningsIn(60)));
    }

    private static void predictedCoins() {
        checks.test("21: earningsIn, without members", () -> {
            CricketCooperative empty = new CricketCooperative();
            checks.same("earningsIn", 0, empty.earningsIn(60));
        });
        checks.test("21: earningsIn, springs that run down within the beats", () -> {
            CricketCooperative c = View.withShares(1);
            c.wind(0, 3);
            checks.same("in 5 beats", 2, c.earningsIn(5));
            checks.same("in 6 beats", 3, c.earningsIn(6));
            checks.same("in 60 beats", 3, c.earningsIn(60));
        });
        checks.test("21: earningsIn, beats that will be spoilt", () -> {
            CricketCooperative c = View.withTones(0, 6);
            c.wind(0, 5);
            c.wind(1, 2);
            checks.same("in 4 beats", 0, c.earningsIn(4));
            checks.same("in 10 beats", 3, c.earningsIn(10));
        });
        checks.test("21: earningsIn is the increase, not the surplus", () -> {
            CricketCooperative c = evenMember();
            c.passBeats(20);
            checks.same("earningsIn", 1, c.earningsIn(2));
        });
        checks.test("21: earningsIn changes nothing", () -> {
            CricketCooperative c = spoiltByTwoOfThree();
            String before = View.of(c);
            checks.same("earningsIn", 4, c.earningsIn(60));
            checks.same("the state", before, View.of(c));
            checks.same("once more", 4, c.earningsIn(60));
        });
    }
}
