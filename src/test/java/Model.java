import java.util.ArrayDeque;
import java.util.ArrayList;
import java.util.Deque;
import java.util.List;
import java.util.regex.Matcher;
import java.util.regex.Pattern;

/** The document once more, written in another way than the class, to compare answers with. */
final class Model {
    static final class Member {
        int shares;
        int period;
        int phase;
        int tone;
        int spring;
        int purse;
        int dissents;

        Member copy() {
            Member other = new Member();
            other.shares = shares;
            other.period = period;
            other.phase = phase;
            other.tone = tone;
            other.spring = spring;
            other.purse = purse;
            other.dissents = dissents;
            return other;
        }
    }

    static final class State {
        final List<Member> members = new ArrayList<>();
        final Deque<Integer> spoilt = new ArrayDeque<>();
        int beat;
        int surplus;
        int houseTone;
        int quarters;
        int chirps;

        State copy() {
            State other = new State();
            for (Member member : members) {
                other.members.add(member.copy());
            }
            other.spoilt.addAll(spoilt);
            other.beat = beat;
            other.surplus = surplus;
            other.houseTone = houseTone;
            other.quarters = quarters;
            other.chirps = chirps;
            return other;
        }
    }

    private static final String COMMAND = "(?:join [0-9]{1,2} [0-9]{1,2} [0-9]{1,2} [0-9]{1,2}"
            + "|wind [0-9] [0-9]{1,2}|tune [0-9] [0-9]{1,2}|buy [0-9] [0-9]{1,2}"
            + "|beats [0-9]{1,2}|quarter|vote [0-9]{1,2} [0-9])";
    private static final Pattern PROGRAM = Pattern.compile(COMMAND + "(?:;" + COMMAND + ")*");
    private static final int[] RING = {0, 1, 2, 3, 4, 5, 6, 5, 4, 3, 2, 1};

    State now = new State();
    private State saved = null;
    private final Deque<State> before = new ArrayDeque<>();
    private String text = "";
    String output = "";
    int errorPosition = -1;
    int failedCommand = -1;

    private Member member(int index) {
        if (index < 0 || index >= now.members.size()) {
            throw new IndexOutOfBoundsException();
        }
        return now.members.get(index);
    }

    private static void need(boolean condition) {
        if (!condition) {
            throw new IllegalArgumentException();
        }
    }

    private static boolean in(int least, int number, int most) {
        return least <= number && number <= most;
    }

    private void changing() {
        before.push(now.copy());
        if (before.size() > 8) {
            before.removeLast();
        }
    }

    int addMember(int shares, int period, int phase, int tone) {
        need(in(1, shares, 50) && in(2, period, 12) && in(0, phase, period - 1) && in(0, tone, 11));
        if (now.members.size() == 8) {
            throw new IllegalStateException();
        }
        changing();
        Member added = new Member();
        added.shares = shares;
        added.period = period;
        added.phase = phase;
        added.tone = tone;
        now.members.add(added);
        return now.members.size() - 1;
    }

    int wind(int index, int turns) {
        Member one = member(index);
        need(in(1, turns, 60));
        if (one.spring + turns > 60) {
            throw new IllegalStateException();
        }
        changing();
        return one.spring += turns;
    }

    int tune(int index, int tone) {
        Member one = member(index);
        need(in(0, tone, 11));
        changing();
        int previous = one.tone;
        one.tone = tone;
        return previous;
    }

    int buyShares(int index, int shares) {
        Member one = member(index);
        need(in(1, shares, 49));
        if (one.shares + shares > 50) {
            throw new IllegalStateException();
        }
        if (one.purse < 5 * shares) {
            throw new UnsupportedOperationException();
        }
        changing();
        one.purse -= 5 * shares;
        now.surplus += 5 * shares;
        return one.shares += shares;
    }

    int passBeats(int beats) {
        need(in(1, beats, 60));
        changing();
        return pass(now, beats);
    }

    private static int pass(State state, int beats) {
        int start = state.surplus;
        for (int count = 0; count < beats; count++) {
            state.beat++;
            List<Member> chirping = new ArrayList<>();
            for (Member one : state.members) {
                if (Math.floorMod(state.beat - one.phase, one.period) == 0 && one.spring >= 1) {
                    one.spring--;
                    chirping.add(one);
                }
            }
            state.chirps += chirping.size();
            if (clash(chirping)) {
                state.spoilt.addFirst(state.beat);
                if (state.spoilt.size() > 10) {
                    state.spoilt.removeLast();
                }
            } else {
                state.surplus += chirping.size();
            }
        }
        return state.surplus - start;
    }

    private static boolean clash(List<Member> chirping) {
        for (Member one : chirping) {
            for (Member other : chirping) {
                int steps = ring(one.tone, other.tone);
                if (steps == 1 || steps == 6) {
                    return true;
                }
            }
        }
        return false;
    }

    private static int ring(int one, int other) {
        return RING[Math.floorMod(one - other, 12)];
    }

    int endQuarter() {
        if (now.members.isEmpty()) {
            throw new IllegalStateException();
        }
        changing();
        int[] due = dividends();
        for (int index = 0; index < due.length; index++) {
            now.members.get(index).purse += due[index];
        }
        int paid = now.surplus;
        now.surplus = 0;
        now.quarters++;
        return paid;
    }

    private int[] dividends() {
        int count = now.members.size();
        int all = now.members.stream().mapToInt(one -> one.shares).sum();
        int[] coins = new int[count];
        List<Integer> order = new ArrayList<>();
        int left = now.surplus;
        for (int index = 0; index < count; index++) {
            coins[index] = now.surplus * now.members.get(index).shares / all;
            left -= coins[index];
            order.add(index);
        }
        order.sort((one, other) -> remainder(other, all) - remainder(one, all));
        for (int place = 0; place < left; place++) {
            coins[order.get(place)]++;
        }
        return coins;
    }

    private int remainder(int index, int all) {
        return now.surplus * now.members.get(index).shares % all;
    }

    int dividend(int index) {
        member(index);
        return dividends()[index];
    }

    boolean vote(int tone, int tolerance) {
        int favour = sharesInFavour(tone, tolerance);
        changing();
        if (favour < quota()) {
            return false;
        }
        now.houseTone = tone;
        for (Member one : now.members) {
            one.dissents += ring(one.tone, tone) > tolerance ? 1 : 0;
        }
        return true;
    }

    int sharesInFavour(int tone, int tolerance) {
        need(in(0, tone, 11) && in(0, tolerance, 6));
        return now.members.stream().filter(one -> ring(one.tone, tone) <= tolerance)
                .mapToInt(one -> one.shares).sum();
    }

    int carriedTone(int tolerance) {
        need(in(0, tolerance, 6));
        for (int tone = 0; tone < 12; tone++) {
            if (sharesInFavour(tone, tolerance) >= quota()) {
                return tone;
            }
        }
        throw new java.util.NoSuchElementException();
    }

    int quota() {
        return now.members.stream().mapToInt(one -> one.shares).sum() / 2 + 1;
    }

    int shares(int index) {
        return member(index).shares;
    }

    int spring(int index) {
        return member(index).spring;
    }

    int tone(int index) {
        return member(index).tone;
    }

    int purse(int index) {
        return member(index).purse;
    }

    int dissents(int index) {
        return member(index).dissents;
    }

    int interval(int one, int other) {
        return ring(member(one).tone, member(other).tone);
    }

    int memberAtRank(int rank) {
        List<Integer> order = new ArrayList<>();
        for (int index = 0; index < now.members.size(); index++) {
            order.add(index);
        }
        order.sort((one, other) -> {
            Member a = now.members.get(one);
            Member b = now.members.get(other);
            return a.shares != b.shares ? b.shares - a.shares : b.purse - a.purse;
        });
        if (rank < 0 || rank >= order.size()) {
            throw new java.util.NoSuchElementException();
        }
        return order.get(rank);
    }

    private boolean due(Member one, int beat) {
        return Math.floorMod(beat - one.phase, one.period) == 0;
    }

    long dueBeats(int index) {
        Member one = member(index);
        long sum = 0;
        for (int k = 0; k < 60; k++) {
            sum += due(one, now.beat + 1 + k) ? 1L << k : 0;
        }
        return sum;
    }

    int commonBeats(int one, int other) {
        Member a = member(one);
        Member b = member(other);
        int count = 0;
        for (int ahead = 1; ahead <= 60; ahead++) {
            count += due(a, now.beat + ahead) && due(b, now.beat + ahead) ? 1 : 0;
        }
        return count;
    }

    int beatsUntilChorus() {
        for (int ahead = 1; ahead <= 60 && !now.members.isEmpty(); ahead++) {
            int beat = now.beat + ahead;
            if (now.members.stream().allMatch(one -> due(one, beat))) {
                return ahead;
            }
        }
        throw new java.util.NoSuchElementException();
    }

    int earningsIn(int beats) {
        need(in(0, beats, 60));
        return pass(now.copy(), beats);
    }

    /** Groups by recursion over the members, with the one who is left out, if any. */
    private int groups(int index, int leftOut, int sum, int least, int most) {
        if (index == now.members.size()) {
            return in(least, sum, most) ? 1 : 0;
        }
        int without = groups(index + 1, leftOut, sum, least, most);
        return index == leftOut ? without
                : without + groups(index + 1, leftOut, sum + now.members.get(index).shares, least, most);
    }

    int winningGroups() {
        return groups(0, -1, 0, quota(), 1000);
    }

    int power(int index) {
        Member one = member(index);
        return groups(0, index, 0, quota() - one.shares, quota() - 1);
    }

    float powerShare(int index) {
        int own = power(index);
        int all = 0;
        for (int other = 0; other < now.members.size(); other++) {
            all += power(other);
        }
        return (float) own / (float) all;
    }

    /** The members with the most shares win soonest. */
    int smallestMajority() {
        int sum = 0;
        for (int rank = 0; true; rank++) {
            sum += now.members.get(memberAtRank(rank)).shares;
            if (sum >= quota()) {
                return rank + 1;
            }
        }
    }

    int coinTotal() {
        return now.surplus + now.members.stream().mapToInt(one -> one.purse).sum();
    }

    double meanPurse() {
        if (now.members.isEmpty()) {
            throw new ArithmeticException();
        }
        return (double) (coinTotal() - now.surplus) / (double) now.members.size();
    }

    int spoiltBeat(int position) {
        if (position < 0 || position >= now.spoilt.size()) {
            throw new IndexOutOfBoundsException();
        }
        return new ArrayList<>(now.spoilt).get(position);
    }

    int append(char character) {
        if (text.length() == 60) {
            throw new IllegalStateException();
        }
        text += character;
        return text.length();
    }

    int run() {
        String program = text;
        text = "";
        if (!PROGRAM.matcher(program).matches()) {
            errorPosition = firstWrong(program);
            throw new IllegalArgumentException();
        }
        String[] commands = program.split(";");
        State start = now.copy();
        List<State> earlier = new ArrayList<>(before);
        for (int index = 0; index < commands.length; index++) {
            try {
                carryOut(commands[index].split(" "));
            } catch (RuntimeException e) {
                now = start;
                forgetAllBut(earlier);
                failedCommand = index;
                throw new UnsupportedOperationException();
            }
        }
        State end = now;
        now = start;
        forgetAllBut(earlier);
        changing();
        now = end;
        return commands.length;
    }

    private void forgetAllBut(List<State> earlier) {
        before.clear();
        before.addAll(earlier);
    }

    /** A text that more characters could make a program ends where the matcher hits its end. */
    private static int firstWrong(String program) {
        for (int length = 1; length <= program.length(); length++) {
            Matcher matcher = PROGRAM.matcher(program.substring(0, length));
            if (!matcher.matches() && !matcher.hitEnd()) {
                return length - 1;
            }
        }
        return program.length();
    }

    private void carryOut(String[] words) {
        int[] numbers = new int[5];
        for (int index = 1; index < words.length; index++) {
            numbers[index] = Integer.parseInt(words[index]);
        }
        switch (words[0]) {
            case "join" -> addMember(numbers[1], numbers[2], numbers[3], numbers[4]);
            case "wind" -> wind(numbers[1], numbers[2]);
            case "tune" -> tune(numbers[1], numbers[2]);
            case "buy" -> buyShares(numbers[1], numbers[2]);
            case "beats" -> passBeats(numbers[1]);
            case "quarter" -> endQuarter();
            default -> vote(numbers[1], numbers[2]);
        }
    }

    int errorPosition() {
        return stored(errorPosition);
    }

    int failedCommand() {
        return stored(failedCommand);
    }

    private static int stored(int number) {
        if (number < 0) {
            throw new java.util.NoSuchElementException();
        }
        return number;
    }

    int writeMember(int index) {
        Member one = member(index);
        output = one.shares + "%" + one.period + "+" + one.phase + "^" + one.tone + "~" + one.spring
                + "$" + one.purse;
        return output.length();
    }

    char outputAt(int index) {
        if (index < 0 || index >= output.length()) {
            throw new IndexOutOfBoundsException();
        }
        return output.charAt(index);
    }

    int undo() {
        if (before.isEmpty()) {
            throw new IllegalStateException();
        }
        now = before.pop();
        return before.size();
    }

    int save() {
        saved = now.copy();
        return 0;
    }

    int restore() {
        if (saved == null) {
            throw new IllegalStateException();
        }
        now = saved.copy();
        before.clear();
        return 0;
    }
}
