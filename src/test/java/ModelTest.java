import java.util.function.Supplier;

/** Long runs of calls, the same ones each time, whose answers the class and the model must share. */
public final class ModelTest {
    private static final Checks checks = new Checks();
    private static final int RUNS = 400;
    private static final int CALLS = 512;
    private static final String[] WORDS = {"join", "wind", "tune", "buy", "beats", "quarter", "vote"};

    private final CricketCooperative c = new CricketCooperative();
    private final Model m = new Model();
    private long seed;
    private int calls = 0;

    private ModelTest(long seed) {
        this.seed = seed;
    }

    public static void main(String[] args) {
        for (int run = 0; run < RUNS; run++) {
            int number = run;
            checks.test("run " + run, () -> new ModelTest(number).play());
        }
        checks.end();
    }

    private void play() {
        while (calls < CALLS) {
            step();
        }
    }

    private int below(int bound) {
        seed = seed * 6364136223846793005L + 1442695040888963407L;
        return (int) ((seed >>> 33) % bound);
    }

    /** Mostly from 0 to most, now and then outside or far away. */
    private int number(int most) {
        switch (below(20)) {
            case 0:
                return -1;
            case 1:
                return most + 1;
            case 2:
                return below(2) == 0 ? Integer.MIN_VALUE : Integer.MAX_VALUE;
            default:
                return below(most + 1);
        }
    }

    private int index() {
        return below(15) == 0 ? number(8) : below(Math.max(1, m.now.members.size()));
    }

    private void both(String call, Supplier<Object> ofClass, Supplier<Object> ofModel) {
        if (calls < CALLS) {
            calls++;
            checks.same("call " + calls + ", " + call + ",", answer(ofModel), answer(ofClass));
        }
    }

    private static Object answer(Supplier<Object> call) {
        try {
            return call.get();
        } catch (RuntimeException e) {
            return "throws " + e.getClass().getName();
        }
    }

    private void step() {
        switch (below(12)) {
            case 0, 1, 2, 3, 4:
                change();
                break;
            case 5:
                askBeats();
                break;
            case 6:
                askVotes();
                break;
            case 7, 8:
                askTotals();
                break;
            case 9:
                snapshot();
                break;
            default:
                askMembers();
                break;
        }
    }

    private void change() {
        int i = index();
        int n = number(60);
        int tone = number(11);
        int few = number(6);
        switch (below(14)) {
            case 0, 1:
                int shares = 1 + number(49);
                int period = 2 + number(10);
                int phase = number(Math.max(1, Math.min(period, 12)) - 1);
                both("addMember", () -> c.addMember(shares, period, phase, tone),
                        () -> m.addMember(shares, period, phase, tone));
                break;
            case 2, 3, 4:
                both("wind", () -> c.wind(i, n), () -> m.wind(i, n));
                break;
            case 5:
                both("tune", () -> c.tune(i, tone), () -> m.tune(i, tone));
                break;
            case 6:
                both("buyShares", () -> c.buyShares(i, few), () -> m.buyShares(i, few));
                break;
            case 7:
                both("buyShares", () -> c.buyShares(i, n), () -> m.buyShares(i, n));
                break;
            case 8, 9:
                both("passBeats", () -> c.passBeats(n), () -> m.passBeats(n));
                break;
            case 10:
                both("endQuarter", c::endQuarter, m::endQuarter);
                break;
            case 11:
                both("vote", () -> c.vote(tone, few), () -> m.vote(tone, few));
                break;
            default:
                program();
                break;
        }
    }

    private void program() {
        if (calls > CALLS - 80) {
            return;
        }
        StringBuilder text = new StringBuilder();
        int count = 1 + below(4);
        for (int command = 0; command < count; command++) {
            text.append(command == 0 ? "" : ";").append(command());
        }
        if (below(4) == 0) {
            text.setLength(below(text.length() + 1));
        }
        if (below(4) == 0 && text.length() > 0) {
            text.setCharAt(below(text.length()), "0123456789; abdeinorstuvwy~".charAt(below(27)));
        }
        for (int place = 0; place < text.length(); place++) {
            char character = text.charAt(place);
            both("append", () -> c.append(character), () -> m.append(character));
        }
        if (below(20) != 0) {
            both("run of " + text, c::run, m::run);
            both("errorPosition", c::errorPosition, m::errorPosition);
            both("failedCommand", c::failedCommand, m::failedCommand);
        }
    }

    private String command() {
        String word = WORDS[below(WORDS.length)];
        int i = Math.min(9, Math.max(0, index()));
        switch (word) {
            case "join":
                int period = 2 + below(11);
                return word + " " + (1 + below(51)) + " " + period + " " + below(period) + " " + below(12);
            case "wind":
                return word + " " + i + " " + below(30);
            case "tune":
                return word + " " + i + " " + below(12);
            case "buy":
                return word + " " + i + " " + (1 + below(3));
            case "beats":
                return word + " " + below(62);
            case "quarter":
                return word;
            default:
                return word + " " + below(12) + " " + below(7);
        }
    }

    private void askMembers() {
        int i = index();
        int j = index();
        int rank = number(7);
        both("memberCount", c::memberCount, m.now.members::size);
        both("shares", () -> c.shares(i), () -> m.shares(i));
        both("spring", () -> c.spring(i), () -> m.spring(i));
        both("tone", () -> c.tone(i), () -> m.tone(i));
        both("purse", () -> c.purse(i), () -> m.purse(i));
        both("dissents", () -> c.dissents(i), () -> m.dissents(i));
        both("interval", () -> c.interval(i, j), () -> m.interval(i, j));
        both("memberAtRank", () -> c.memberAtRank(rank), () -> m.memberAtRank(rank));
        both("dividend", () -> c.dividend(i), () -> m.dividend(i));
        both("dividendByCounting", () -> c.dividendByCounting(i), () -> m.dividend(i));
    }

    private void askBeats() {
        int i = index();
        int j = index();
        int beats = number(60);
        both("dueBeats", () -> c.dueBeats(i), () -> m.dueBeats(i));
        both("dueBeatsByDoubling", () -> c.dueBeatsByDoubling(i), () -> m.dueBeats(i));
        both("commonBeats", () -> c.commonBeats(i, j), () -> m.commonBeats(i, j));
        both("beatsUntilChorus", c::beatsUntilChorus, m::beatsUntilChorus);
        both("earningsIn", () -> c.earningsIn(beats), () -> m.earningsIn(beats));
    }

    private void askVotes() {
        int i = index();
        int tone = number(11);
        int tolerance = number(6);
        both("sharesInFavour", () -> c.sharesInFavour(tone, tolerance),
                () -> m.sharesInFavour(tone, tolerance));
        both("carriedTone", () -> c.carriedTone(tolerance), () -> m.carriedTone(tolerance));
        both("quota", c::quota, m::quota);
        both("winningGroups", c::winningGroups, m::winningGroups);
        both("winningGroupsByTable", c::winningGroupsByTable, m::winningGroups);
        both("power", () -> c.power(i), () -> m.power(i));
        both("powerByTable", () -> c.powerByTable(i), () -> m.power(i));
        both("powerShare", () -> c.powerShare(i), () -> m.powerShare(i));
        both("smallestMajority", c::smallestMajority, m::smallestMajority);
    }

    private void askTotals() {
        int position = number(10);
        both("beat", c::beat, () -> m.now.beat);
        both("surplus", c::surplus, () -> m.now.surplus);
        both("houseTone", c::houseTone, () -> m.now.houseTone);
        both("quarters", c::quarters, () -> m.now.quarters);
        both("coinTotal", c::coinTotal, m::coinTotal);
        both("coinsByAccounts", c::coinsByAccounts, m::coinTotal);
        both("chirps", c::chirps, () -> m.now.chirps);
        both("spoiltBeat", () -> c.spoiltBeat(position), () -> m.spoiltBeat(position));
        both("meanPurse", c::meanPurse, m::meanPurse);
        both("isConsistent", c::isConsistent, () -> true);
    }

    private void snapshot() {
        int i = index();
        int place = number(12);
        switch (below(8)) {
            case 0:
                both("save", () -> answerOf(c::save), m::save);
                break;
            case 1:
                both("restore", () -> answerOf(c::restore), m::restore);
                break;
            case 2, 3:
                both("writeMember", () -> c.writeMember(i), () -> m.writeMember(i));
                break;
            case 4:
                both("outputAt", () -> c.outputAt(place), () -> m.outputAt(place));
                break;
            default:
                both("undo", c::undo, m::undo);
                break;
        }
    }

    private static Object answerOf(Runnable call) {
        call.run();
        return 0;
    }
}
