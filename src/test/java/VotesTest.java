import java.util.NoSuchElementException;

/** Promises 24 to 31: queries about votes and power. */
public final class VotesTest {
    private static final Checks checks = new Checks();
    private static final Class<IndexOutOfBoundsException> INDEX = IndexOutOfBoundsException.class;
    private static final Class<IllegalArgumentException> ARGUMENT = IllegalArgumentException.class;
    private static final Class<NoSuchElementException> NO_SUCH = NoSuchElementException.class;

    public static void main(String[] args) {
        checks.test("24: sharesInFavour", VotesTest::inFavour);
        checks.test("24: sharesInFavour, out of range", VotesTest::inFavourRefused);
        checks.test("25: carriedTone", VotesTest::carriedTone);
        checks.test("25: carriedTone, out of range or none", VotesTest::carriedToneRefused);
        checks.test("26: quota", VotesTest::quota);
        checks.test("27, 28: winningGroups and winningGroupsByTable", VotesTest::winningGroups);
        checks.test("29, 30: power and powerByTable", VotesTest::powers);
        checks.test("29, 30: no such member", VotesTest::powersRefused);
        checks.test("31: smallestMajority", VotesTest::smallestMajority);
        checks.end();
    }

    /** Tones 0, 3, 6, 11 with 1, 2, 4, 8 shares, so that the sum tells who is in favour. */
    private static CricketCooperative fourTones() {
        CricketCooperative c = new CricketCooperative();
        c.addMember(1, 2, 0, 0);
        c.addMember(2, 2, 0, 3);
        c.addMember(4, 2, 0, 6);
        c.addMember(8, 2, 0, 11);
        return c;
    }

    private static void inFavour() {
        CricketCooperative c = fourTones();
        String before = View.of(c);
        int[] near = {1, 9, 9, 11, 11, 11, 15};
        int[] far = {4, 4, 4, 6, 6, 14, 15};
        for (int tolerance = 0; tolerance <= 6; tolerance++) {
            checks.same("tone 0, " + tolerance, near[tolerance], c.sharesInFavour(0, tolerance));
            checks.same("tone 6, " + tolerance, far[tolerance], c.sharesInFavour(6, tolerance));
        }
        checks.same("tone 11, 4", 11, c.sharesInFavour(11, 4));
        checks.same("tone 9, 3", 13, c.sharesInFavour(9, 3));
        checks.same("tone 1, 0", 0, c.sharesInFavour(1, 0));
        checks.same("view", before, View.of(c));
        checks.same("nobody", 0, new CricketCooperative().sharesInFavour(0, 6));
    }

    private static void inFavourRefused() {
        CricketCooperative c = fourTones();
        int[][] wrong = {{-1, 0}, {12, 0}, {0, -1}, {0, 7}, {-1, 7}, {Integer.MAX_VALUE, 0},
            {0, Integer.MIN_VALUE}};
        for (int[] row : wrong) {
            checks.throwsExactly(ARGUMENT, "sharesInFavour " + row[0] + " " + row[1],
                    () -> c.sharesInFavour(row[0], row[1]));
        }
    }

    private static void carriedTone() {
        CricketCooperative c = fourTones();
        checks.same("quota", 8, c.quota());
        checks.same("tolerance 0", 11, c.carriedTone(0));
        checks.same("tolerance 1", 0, c.carriedTone(1));
        checks.same("tolerance 6", 0, c.carriedTone(6));
        CricketCooperative other = View.withTones(4, 4, 8);
        String before = View.of(other);
        int[] due = {4, 3, 2, 1, 0, 0, 0};
        for (int tolerance = 0; tolerance <= 6; tolerance++) {
            checks.same("tolerance " + tolerance, due[tolerance], other.carriedTone(tolerance));
        }
        checks.same("view", before, View.of(other));
    }

    private static void carriedToneRefused() {
        CricketCooperative c = View.withTones(0, 4, 8);
        checks.throwsExactly(NO_SUCH, "tolerance 1", () -> c.carriedTone(1));
        checks.same("tolerance 2", 2, c.carriedTone(2));
        checks.throwsExactly(ARGUMENT, "tolerance -1", () -> c.carriedTone(-1));
        checks.throwsExactly(ARGUMENT, "tolerance 7", () -> c.carriedTone(7));
        CricketCooperative empty = new CricketCooperative();
        checks.throwsExactly(NO_SUCH, "nobody", () -> empty.carriedTone(6));
        checks.throwsExactly(ARGUMENT, "nobody, 7", () -> empty.carriedTone(7));
        checks.throwsExactly(ARGUMENT, "nobody, far", () -> empty.carriedTone(Integer.MIN_VALUE));
    }

    private static void quota() {
        checks.same("no shares", 1, new CricketCooperative().quota());
        checks.same("1 share", 1, View.withShares(1).quota());
        checks.same("2 shares", 2, View.withShares(1, 1).quota());
        checks.same("3 shares", 2, View.withShares(1, 2).quota());
        checks.same("4 shares", 3, View.withShares(1, 2, 1).quota());
        checks.same("400 shares", 201, View.withShares(50, 50, 50, 50, 50, 50, 50, 50).quota());
    }

    private static void groupsAre(int due, int... shares) {
        CricketCooperative c = View.withShares(shares);
        checks.same("winningGroups", due, c.winningGroups());
        checks.same("winningGroupsByTable", due, c.winningGroupsByTable());
        checks.same("winningGroups again", due, c.winningGroups());
        checks.same("winningGroupsByTable again", due, c.winningGroupsByTable());
    }

    private static void winningGroups() {
        groupsAre(0);
        groupsAre(1, 1);
        groupsAre(1, 50);
        groupsAre(1, 5, 5);
        groupsAre(2, 5, 4);
        groupsAre(4, 11, 7, 3);
        groupsAre(4, 11, 7, 5);
        groupsAre(5, 1, 1, 1, 1);
        groupsAre(128, 49, 2, 3, 4, 5, 6, 7, 8);
        groupsAre(93, 50, 50, 50, 50, 50, 50, 50, 50);
        groupsAre(93, 1, 1, 1, 1, 1, 1, 1, 1);
        groupsAre(128, 1, 1, 1, 1, 1, 1, 1, 2);
        groupsAre(124, 1, 7, 13, 19, 25, 31, 37, 43);
    }

    private static void powersAre(int[] due, int... shares) {
        CricketCooperative c = View.withShares(shares);
        String before = View.of(c);
        for (int member = 0; member < due.length; member++) {
            checks.same("power " + member, due[member], c.power(member));
            checks.same("powerByTable " + member, due[member], c.powerByTable(member));
        }
        checks.same("view", before, View.of(c));
    }

    private static void powers() {
        powersAre(new int[] {1}, 1);
        powersAre(new int[] {1}, 50);
        powersAre(new int[] {1, 1}, 5, 5);
        powersAre(new int[] {2, 0}, 5, 4);
        powersAre(new int[] {0, 2}, 4, 5);
        powersAre(new int[] {2, 2, 2}, 10, 7, 4);
        powersAre(new int[] {3, 1, 1}, 11, 7, 4);
        powersAre(new int[] {4, 0, 0}, 50, 7, 4);
        powersAre(new int[] {3, 3, 3, 3}, 1, 1, 1, 1);
        powersAre(new int[] {35, 35, 35, 35, 35, 35, 35, 35}, 50, 50, 50, 50, 50, 50, 50, 50);
    }

    private static void powersRefused() {
        CricketCooperative c = View.withShares(3, 2, 1);
        int[] none = {-1, 3, 8, Integer.MIN_VALUE, Integer.MAX_VALUE};
        for (int member : none) {
            checks.throwsExactly(INDEX, "power " + member, () -> c.power(member));
            checks.throwsExactly(INDEX, "powerByTable " + member, () -> c.powerByTable(member));
        }
        CricketCooperative empty = new CricketCooperative();
        checks.throwsExactly(INDEX, "power of nobody", () -> empty.power(0));
        checks.throwsExactly(INDEX, "powerByTable of nobody", () -> empty.powerByTable(0));
    }

    private static void smallestMajority() {
        checks.throwsExactly(NO_SUCH, "nobody", () -> new CricketCooperative().smallestMajority());
        checks.same("one", 1, View.withShares(1).smallestMajority());
        checks.same("two equal ones", 2, View.withShares(5, 5).smallestMajority());
        checks.same("two", 1, View.withShares(4, 5).smallestMajority());
        checks.same("three", 2, View.withShares(10, 7, 4).smallestMajority());
        checks.same("half of the shares", 2, View.withShares(11, 7, 4).smallestMajority());
        checks.same("more than half", 1, View.withShares(7, 12, 4).smallestMajority());
        checks.same("eight", 5, View.withShares(1, 1, 1, 1, 1, 1, 1, 1).smallestMajority());
        checks.same("eight, one more", 4, View.withShares(1, 1, 1, 1, 1, 1, 1, 2).smallestMajority());
        checks.same("eight, rising", 3, View.withShares(1, 7, 13, 19, 25, 31, 37, 43).smallestMajority());
    }
}
