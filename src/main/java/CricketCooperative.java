import java.util.NoSuchElementException;

/**
 * A cooperative of mechanical crickets. The numbered promises of the document say what each call
 * does; the private methods and the classes inside bear other names than the calls of the face.
 */
public final class CricketCooperative {
    private static final int MOST_MEMBERS = 8;
    private static final int MOST_SHARES = 50;
    private static final int MOST_TURNS = 60;
    private static final int SHORTEST_PERIOD = 2;
    private static final int LONGEST_PERIOD = 12;
    private static final int SHARE_PRICE = 5;
    private static final int TONES = 12;
    private static final int WIDEST_INTERVAL = 6;
    private static final int MOST_BEATS = 60;
    private static final int NOTHING_STORED = -1;

    private static final int FINE = 0;
    private static final int NO_MEMBER = 1;
    private static final int OUT_OF_RANGE = 2;
    private static final int BAD_STATE = 3;
    private static final int TOO_FEW_COINS = 4;

    private final State state = new State();
    private final State saved = new State();
    private final State spare = new State();
    private final History history = new History();
    private final Dividends dividends = new Dividends();
    private final Groups groups = new Groups();
    private final Program program = new Program();
    private final StringBuilder line = new StringBuilder();
    private boolean hasSaved = false;
    private int storedPosition = NOTHING_STORED;
    private int storedCommand = NOTHING_STORED;

    public CricketCooperative() {
    }

    // ---- changes

    public int addMember(int shares, int period, int phase, int tone)
            throws IllegalArgumentException, IllegalStateException {
        refuse(state.faultOfJoining(shares, period, phase, tone));
        history.remember(state);
        return state.join(shares, period, phase, tone);
    }

    public int wind(int member, int turns)
            throws IndexOutOfBoundsException, IllegalArgumentException, IllegalStateException {
        refuse(state.faultOfWinding(member, turns));
        history.remember(state);
        return state.windUp(member, turns);
    }

    public int tune(int member, int tone)
            throws IndexOutOfBoundsException, IllegalArgumentException {
        refuse(state.faultOfTuning(member, tone));
        history.remember(state);
        return state.retune(member, tone);
    }

    public int buyShares(int member, int shares)
            throws IndexOutOfBoundsException, IllegalArgumentException, IllegalStateException,
            UnsupportedOperationException {
        refuse(state.faultOfBuying(member, shares));
        history.remember(state);
        return state.buy(member, shares);
    }

    public int passBeats(int beats) throws IllegalArgumentException {
        refuse(state.faultOfPassing(beats));
        history.remember(state);
        return state.letPass(beats);
    }

    public int endQuarter() throws IllegalStateException {
        refuse(state.faultOfQuarter());
        history.remember(state);
        return dividends.payOut(state);
    }

    public boolean vote(int tone, int tolerance) throws IllegalArgumentException {
        refuse(state.faultOfMotion(tone, tolerance));
        history.remember(state);
        return state.decide(tone, tolerance);
    }

    // ---- queries about members

    public int memberCount() {
        return state.memberCount;
    }

    public int shares(int member) throws IndexOutOfBoundsException {
        needMember(member);
        return state.shares[member];
    }

    public int spring(int member) throws IndexOutOfBoundsException {
        needMember(member);
        return state.spring[member];
    }

    public int tone(int member) throws IndexOutOfBoundsException {
        needMember(member);
        return state.tone[member];
    }

    public int purse(int member) throws IndexOutOfBoundsException {
        needMember(member);
        return state.purse[member];
    }

    public int dissents(int member) throws IndexOutOfBoundsException {
        needMember(member);
        return state.dissents[member];
    }

    public int interval(int one, int other) throws IndexOutOfBoundsException {
        needMember(one);
        needMember(other);
        return stepsBetween(state.tone[one], state.tone[other]);
    }

    public int memberAtRank(int rank) throws NoSuchElementException {
        for (int member = 0; member < state.memberCount; member++) {
            if (state.membersAhead(member) == rank) {
                return member;
            }
        }
        throw new NoSuchElementException("no such rank");
    }

    // ---- queries about beats

    public long dueBeats(int member) throws IndexOutOfBoundsException {
        needMember(member);
        return state.dueByLooking(member);
    }

    public long dueBeatsByDoubling(int member) throws IndexOutOfBoundsException {
        needMember(member);
        return state.dueByPattern(member);
    }

    public int commonBeats(int one, int other) throws IndexOutOfBoundsException {
        needMember(one);
        needMember(other);
        return Long.bitCount(state.dueByLooking(one) & state.dueByLooking(other));
    }

    public int beatsUntilChorus() throws NoSuchElementException {
        for (int beats = 1; beats <= MOST_BEATS; beats++) {
            if (state.isChorus(state.beat + beats)) {
                return beats;
            }
        }
        throw new NoSuchElementException("no chorus");
    }

    public int earningsIn(int beats) throws IllegalArgumentException {
        if (beats < 0 || beats > MOST_BEATS) {
            throw new IllegalArgumentException("beats out of range");
        }
        spare.copyFrom(state);
        return spare.letPass(beats);
    }

    // ---- queries about dividends

    public int dividend(int member) throws IndexOutOfBoundsException {
        needMember(member);
        return dividends.byGiving(state, member);
    }

    public int dividendByCounting(int member) throws IndexOutOfBoundsException {
        needMember(member);
        return dividends.byCounting(state, member);
    }

    // ---- queries about votes and power

    public int sharesInFavour(int tone, int tolerance) throws IllegalArgumentException {
        refuse(state.faultOfMotion(tone, tolerance));
        return state.sharesFor(tone, tolerance);
    }

    public int carriedTone(int tolerance) throws IllegalArgumentException, NoSuchElementException {
        refuse(state.faultOfMotion(0, tolerance));
        for (int tone = 0; tone < TONES; tone++) {
            if (state.sharesFor(tone, tolerance) >= state.neededShares()) {
                return tone;
            }
        }
        throw new NoSuchElementException("no tone would be carried");
    }

    public int quota() {
        return state.neededShares();
    }

    public int winningGroups() {
        return groups.winningByTrying(state);
    }

    public int winningGroupsByTable() {
        return groups.winningByTable(state);
    }

    public int power(int member) throws IndexOutOfBoundsException {
        needMember(member);
        return groups.decisiveByTrying(state, member);
    }

    public int powerByTable(int member) throws IndexOutOfBoundsException {
        needMember(member);
        return groups.decisiveByTable(state, member);
    }

    public int smallestMajority() throws NoSuchElementException {
        if (state.memberCount == 0) {
            throw new NoSuchElementException("no members");
        }
        return groups.fewestThatWin(state);
    }

    // ---- totals

    public int beat() {
        return state.beat;
    }

    public int surplus() {
        return state.surplus;
    }

    public int houseTone() {
        return state.houseTone;
    }

    public int quarters() {
        return state.quarters;
    }

    public int coinTotal() {
        return state.coinsInPurses() + state.surplus;
    }

    public int coinsByAccounts() {
        return state.earned;
    }

    public int chirps() {
        return state.chirps;
    }

    public int spoiltBeat(int position) throws IndexOutOfBoundsException {
        if (position < 0 || position >= state.spoiltCount) {
            throw new IndexOutOfBoundsException("no such spoilt beat");
        }
        return state.spoilt[position];
    }

    public double meanPurse() throws ArithmeticException {
        if (state.memberCount == 0) {
            throw new ArithmeticException("no members");
        }
        return (double) state.coinsInPurses() / (double) state.memberCount;
    }

    public float powerShare(int member) throws IndexOutOfBoundsException {
        needMember(member);
        int all = groups.powerOfAll(state);
        return all == 0 ? 0.0f : (float) groups.decisiveByTrying(state, member) / (float) all;
    }

    public boolean isConsistent() {
        if (state.coinsInPurses() + state.surplus != state.earned
                || groups.winningByTrying(state) != groups.winningByTable(state)) {
            return false;
        }
        int paid = 0;
        for (int member = 0; member < state.memberCount; member++) {
            if (!bothWaysAgree(member)) {
                return false;
            }
            paid += dividends.byGiving(state, member);
        }
        return state.memberCount == 0 || paid == state.surplus;
    }

    // ---- programs

    public int append(char character) throws IllegalStateException {
        if (program.isFull()) {
            throw new IllegalStateException("the text buffer is full");
        }
        return program.add(character);
    }

    public int run() throws IllegalArgumentException, UnsupportedOperationException {
        boolean understood = program.parse();
        program.emptyText();
        if (!understood) {
            storedPosition = program.position;
            throw new IllegalArgumentException("not a program");
        }
        spare.copyFrom(state);
        int failing = firstFailingCommand();
        if (failing != NOTHING_STORED) {
            state.copyFrom(spare);
            storedCommand = failing;
            throw new UnsupportedOperationException("a command fails");
        }
        history.remember(spare);
        return program.commandCount;
    }

    public int errorPosition() throws NoSuchElementException {
        if (storedPosition == NOTHING_STORED) {
            throw new NoSuchElementException("no error position");
        }
        return storedPosition;
    }

    public int failedCommand() throws NoSuchElementException {
        if (storedCommand == NOTHING_STORED) {
            throw new NoSuchElementException("no failed command");
        }
        return storedCommand;
    }

    // ---- output

    public int writeMember(int member) throws IndexOutOfBoundsException {
        needMember(member);
        line.setLength(0);
        line.append(state.shares[member]).append('%').append(state.period[member]);
        line.append('+').append(state.phase[member]).append('^').append(state.tone[member]);
        line.append('~').append(state.spring[member]).append('$').append(state.purse[member]);
        return line.length();
    }

    public char outputAt(int index) throws IndexOutOfBoundsException {
        if (index < 0 || index >= line.length()) {
            throw new IndexOutOfBoundsException("outside the output line");
        }
        return line.charAt(index);
    }

    // ---- undo and snapshot

    public int undo() throws IllegalStateException {
        if (history.count == 0) {
            throw new IllegalStateException("no call can be undone");
        }
        return history.takeBack(state);
    }

    public void save() {
        saved.copyFrom(state);
        hasSaved = true;
    }

    public void restore() throws IllegalStateException {
        if (!hasSaved) {
            throw new IllegalStateException("no state was saved");
        }
        state.copyFrom(saved);
        history.forget();
    }

    // ---- helpers of the face

    private void needMember(int member) {
        if (!state.hasMember(member)) {
            throw new IndexOutOfBoundsException("no such member");
        }
    }

    private static void refuse(int fault) {
        switch (fault) {
            case NO_MEMBER:
                throw new IndexOutOfBoundsException("no such member");
            case OUT_OF_RANGE:
                throw new IllegalArgumentException("out of range");
            case BAD_STATE:
                throw new IllegalStateException("not possible in this state");
            case TOO_FEW_COINS:
                throw new UnsupportedOperationException("too few coins");
            default:
                break;
        }
    }

    private boolean bothWaysAgree(int member) {
        return state.dueByLooking(member) == state.dueByPattern(member)
                && dividends.byGiving(state, member) == dividends.byCounting(state, member)
                && groups.decisiveByTrying(state, member) == groups.decisiveByTable(state, member);
    }

    private int firstFailingCommand() {
        for (int command = 0; command < program.commandCount; command++) {
            if (faultOfCommand(command) != FINE) {
                return command;
            }
            carryOut(command);
        }
        return NOTHING_STORED;
    }

    private int faultOfCommand(int command) {
        int first = program.argument(command, 0);
        int second = program.argument(command, 1);
        switch (program.kindOf(command)) {
            case Program.JOIN:
                return state.faultOfJoining(first, second, program.argument(command, 2),
                        program.argument(command, 3));
            case Program.WIND:
                return state.faultOfWinding(first, second);
            case Program.TUNE:
                return state.faultOfTuning(first, second);
            case Program.BUY:
                return state.faultOfBuying(first, second);
            case Program.BEATS:
                return state.faultOfPassing(first);
            case Program.QUARTER:
                return state.faultOfQuarter();
            default:
                return state.faultOfMotion(first, second);
        }
    }

    private void carryOut(int command) {
        int first = program.argument(command, 0);
        int second = program.argument(command, 1);
        switch (program.kindOf(command)) {
            case Program.JOIN:
                state.join(first, second, program.argument(command, 2),
                        program.argument(command, 3));
                break;
            case Program.WIND:
                state.windUp(first, second);
                break;
            case Program.TUNE:
                state.retune(first, second);
                break;
            case Program.BUY:
                state.buy(first, second);
                break;
            case Program.BEATS:
                state.letPass(first);
                break;
            case Program.QUARTER:
                dividends.payOut(state);
                break;
            default:
                state.decide(first, second);
                break;
        }
    }

    private static int stepsBetween(int oneTone, int otherTone) {
        int steps = oneTone < otherTone ? otherTone - oneTone : oneTone - otherTone;
        return steps > WIDEST_INTERVAL ? TONES - steps : steps;
    }

    /** All that undo, save and restore concern; a change is called only where its fault is FINE. */
    private static final class State {
        private static final int MOST_SPOILT = 10;
        private static final int ALL_TONES = (1 << TONES) - 1;
        private static final int HALF_RING = 6;
        private static final long ALL_BEATS = (1L << MOST_BEATS) - 1;
        // the shortest period, 2, covers 64 beats after five doublings
        private static final int MOST_DOUBLINGS = 5;

        final int[] shares = new int[MOST_MEMBERS];
        final int[] period = new int[MOST_MEMBERS];
        final int[] phase = new int[MOST_MEMBERS];
        final int[] tone = new int[MOST_MEMBERS];
        final int[] spring = new int[MOST_MEMBERS];
        final int[] purse = new int[MOST_MEMBERS];
        final int[] dissents = new int[MOST_MEMBERS];
        final int[] spoilt = new int[MOST_SPOILT];
        int memberCount = 0;
        int spoiltCount = 0;
        int beat = 0;
        int surplus = 0;
        int houseTone = 0;
        int quarters = 0;
        int earned = 0;
        int chirps = 0;

        void copyFrom(State other) {
            System.arraycopy(other.shares, 0, shares, 0, MOST_MEMBERS);
            System.arraycopy(other.period, 0, period, 0, MOST_MEMBERS);
            System.arraycopy(other.phase, 0, phase, 0, MOST_MEMBERS);
            System.arraycopy(other.tone, 0, tone, 0, MOST_MEMBERS);
            System.arraycopy(other.spring, 0, spring, 0, MOST_MEMBERS);
            System.arraycopy(other.purse, 0, purse, 0, MOST_MEMBERS);
            System.arraycopy(other.dissents, 0, dissents, 0, MOST_MEMBERS);
            System.arraycopy(other.spoilt, 0, spoilt, 0, MOST_SPOILT);
            memberCount = other.memberCount;
            spoiltCount = other.spoiltCount;
            beat = other.beat;
            surplus = other.surplus;
            houseTone = other.houseTone;
            quarters = other.quarters;
            earned = other.earned;
            chirps = other.chirps;
        }

        boolean hasMember(int member) {
            return member >= 0 && member < memberCount;
        }

        int faultOfJoining(int newShares, int newPeriod, int newPhase, int newTone) {
            if (newShares < 1 || newShares > MOST_SHARES
                    || newPeriod < SHORTEST_PERIOD || newPeriod > LONGEST_PERIOD
                    || newPhase < 0 || newPhase >= newPeriod || !isTone(newTone)) {
                return OUT_OF_RANGE;
            }
            return memberCount >= MOST_MEMBERS ? BAD_STATE : FINE;
        }

        int join(int newShares, int newPeriod, int newPhase, int newTone) {
            int member = memberCount;
            shares[member] = newShares;
            period[member] = newPeriod;
            phase[member] = newPhase;
            tone[member] = newTone;
            spring[member] = 0;
            purse[member] = 0;
            dissents[member] = 0;
            memberCount++;
            return member;
        }

        int faultOfWinding(int member, int turns) {
            if (!hasMember(member)) {
                return NO_MEMBER;
            }
            if (turns < 1 || turns > MOST_TURNS) {
                return OUT_OF_RANGE;
            }
            return spring[member] + turns > MOST_TURNS ? BAD_STATE : FINE;
        }

        int windUp(int member, int turns) {
            spring[member] += turns;
            return spring[member];
        }

        int faultOfTuning(int member, int newTone) {
            if (!hasMember(member)) {
                return NO_MEMBER;
            }
            return isTone(newTone) ? FINE : OUT_OF_RANGE;
        }

        int retune(int member, int newTone) {
            int previous = tone[member];
            tone[member] = newTone;
            return previous;
        }

        int faultOfBuying(int member, int bought) {
            if (!hasMember(member)) {
                return NO_MEMBER;
            }
            if (bought < 1 || bought >= MOST_SHARES) {
                return OUT_OF_RANGE;
            }
            if (shares[member] + bought > MOST_SHARES) {
                return BAD_STATE;
            }
            return purse[member] < bought * SHARE_PRICE ? TOO_FEW_COINS : FINE;
        }

        int buy(int member, int bought) {
            purse[member] -= bought * SHARE_PRICE;
            surplus += bought * SHARE_PRICE;
            shares[member] += bought;
            return shares[member];
        }

        int faultOfPassing(int beats) {
            return beats < 1 || beats > MOST_BEATS ? OUT_OF_RANGE : FINE;
        }

        int letPass(int beats) {
            int before = surplus;
            for (int passed = 0; passed < beats; passed++) {
                passOne();
            }
            return surplus - before;
        }

        private void passOne() {
            beat++;
            int chirping = 0;
            int sounding = 0;
            for (int member = 0; member < memberCount; member++) {
                if (isDue(member, beat) && spring[member] > 0) {
                    spring[member]--;
                    chirping++;
                    sounding |= 1 << tone[member];
                }
            }
            chirps += chirping;
            if (hasClash(sounding)) {
                keepSpoiltBeat();
            } else {
                surplus += chirping;
                earned += chirping;
            }
        }

        private static boolean hasClash(int sounding) {
            return (sounding & turned(sounding, 1)) != 0
                    || (sounding & turned(sounding, HALF_RING)) != 0;
        }

        private static int turned(int sounding, int steps) {
            return (sounding << steps | sounding >>> (TONES - steps)) & ALL_TONES;
        }

        private void keepSpoiltBeat() {
            for (int position = MOST_SPOILT - 1; position > 0; position--) {
                spoilt[position] = spoilt[position - 1];
            }
            spoilt[0] = beat;
            spoiltCount = Math.min(spoiltCount + 1, MOST_SPOILT);
        }

        boolean isDue(int member, int atBeat) {
            int length = period[member];
            return length > 0 && (atBeat - phase[member]) % length == 0;
        }

        boolean isChorus(int atBeat) {
            for (int member = 0; member < memberCount; member++) {
                if (!isDue(member, atBeat)) {
                    return false;
                }
            }
            return memberCount > 0;
        }

        long dueByLooking(int member) {
            long due = 0;
            for (int ahead = 0; ahead < MOST_BEATS; ahead++) {
                if (isDue(member, beat + 1 + ahead)) {
                    due |= 1L << ahead;
                }
            }
            return due;
        }

        long dueByPattern(int member) {
            int covered = period[member];
            if (covered <= 0) {
                return 0;
            }
            long pattern = 1L << Math.floorMod(phase[member] - beat - 1, covered);
            for (int doubling = 0; doubling < MOST_DOUBLINGS && covered < MOST_BEATS; doubling++) {
                pattern |= pattern << covered;
                covered *= 2;
            }
            return pattern & ALL_BEATS;
        }

        int faultOfQuarter() {
            return memberCount == 0 ? BAD_STATE : FINE;
        }

        int faultOfMotion(int motionTone, int tolerance) {
            return isTone(motionTone) && tolerance >= 0 && tolerance <= WIDEST_INTERVAL
                    ? FINE : OUT_OF_RANGE;
        }

        boolean decide(int motionTone, int tolerance) {
            if (sharesFor(motionTone, tolerance) < neededShares()) {
                return false;
            }
            houseTone = motionTone;
            for (int member = 0; member < memberCount; member++) {
                if (!isInFavour(member, motionTone, tolerance)) {
                    dissents[member]++;
                }
            }
            return true;
        }

        int sharesFor(int motionTone, int tolerance) {
            int sum = 0;
            for (int member = 0; member < memberCount; member++) {
                if (isInFavour(member, motionTone, tolerance)) {
                    sum += shares[member];
                }
            }
            return sum;
        }

        private boolean isInFavour(int member, int motionTone, int tolerance) {
            return stepsBetween(tone[member], motionTone) <= tolerance;
        }

        private static boolean isTone(int number) {
            return number >= 0 && number < TONES;
        }

        int neededShares() {
            return allShares() / 2 + 1;
        }

        int allShares() {
            int sum = 0;
            for (int member = 0; member < memberCount; member++) {
                sum += shares[member];
            }
            return sum;
        }

        int coinsInPurses() {
            int sum = 0;
            for (int member = 0; member < memberCount; member++) {
                sum += purse[member];
            }
            return sum;
        }

        int membersAhead(int member) {
            int count = 0;
            for (int other = 0; other < memberCount; other++) {
                if (isAhead(other, member)) {
                    count++;
                }
            }
            return count;
        }

        private boolean isAhead(int one, int other) {
            if (shares[one] != shares[other]) {
                return shares[one] > shares[other];
            }
            if (purse[one] != purse[other]) {
                return purse[one] > purse[other];
            }
            return one < other;
        }
    }

    /** The states before the latest changing calls, in a ring whose rows are used again. */
    private static final class History {
        private static final int MOST_CALLS = 8;

        private final State[] before = {
            new State(), new State(), new State(), new State(),
            new State(), new State(), new State(), new State()
        };
        private int next = 0;
        int count = 0;

        void remember(State state) {
            before[next].copyFrom(state);
            next = (next + 1) % MOST_CALLS;
            count = Math.min(count + 1, MOST_CALLS);
        }

        int takeBack(State state) {
            next = (next + MOST_CALLS - 1) % MOST_CALLS;
            state.copyFrom(before[next]);
            count--;
            return count;
        }

        void forget() {
            count = 0;
        }
    }

    /** The division of the surplus by shares. */
    private static final class Dividends {
        private static final int HAS_GOT_ONE = -1;

        private final int[] coins = new int[MOST_MEMBERS];
        private final int[] remainders = new int[MOST_MEMBERS];

        int byGiving(State state, int member) {
            giveAll(state);
            return coins[member];
        }

        int byCounting(State state, int member) {
            int left = divide(state);
            int ahead = 0;
            for (int other = 0; other < state.memberCount; other++) {
                if (remainders[other] > remainders[member]
                        || remainders[other] == remainders[member] && other < member) {
                    ahead++;
                }
            }
            return coins[member] + (ahead < left ? 1 : 0);
        }

        int payOut(State state) {
            giveAll(state);
            int paid = 0;
            for (int member = 0; member < state.memberCount; member++) {
                state.purse[member] += coins[member];
                paid += coins[member];
            }
            state.surplus = 0;
            state.quarters++;
            return paid;
        }

        private void giveAll(State state) {
            int left = divide(state);
            for (int given = 0; given < left; given++) {
                int lucky = greatestRemainder(state.memberCount);
                coins[lucky]++;
                remainders[lucky] = HAS_GOT_ONE;
            }
        }

        private int divide(State state) {
            int all = state.allShares();
            int left = state.surplus;
            for (int member = 0; member < state.memberCount; member++) {
                int product = state.surplus * state.shares[member];
                coins[member] = all == 0 ? 0 : product / all;
                remainders[member] = all == 0 ? 0 : product % all;
                left -= coins[member];
            }
            return left;
        }

        private int greatestRemainder(int memberCount) {
            int best = 0;
            for (int member = 1; member < memberCount; member++) {
                if (remainders[member] > remainders[best]) {
                    best = member;
                }
            }
            return best;
        }
    }

    /** Counts of groups of members; a group is a number whose bit k tells of the member k. */
    private static final class Groups {
        private static final int NOBODY = -1;

        private final int[] sharesOf = new int[1 << MOST_MEMBERS];
        private final int[] groupsWith = new int[MOST_MEMBERS * MOST_SHARES + 1];

        int winningByTrying(State state) {
            int quota = state.neededShares();
            int groupCount = addUpGroups(state);
            int winning = 0;
            for (int group = 0; group < groupCount; group++) {
                if (sharesOf[group] >= quota) {
                    winning++;
                }
            }
            return winning;
        }

        int decisiveByTrying(State state, int member) {
            int quota = state.neededShares();
            int groupCount = addUpGroups(state);
            int decisive = 0;
            for (int group = 0; group < groupCount; group++) {
                boolean belongs = (group >> member & 1) != 0;
                if (!belongs && sharesOf[group] < quota
                        && sharesOf[group] + state.shares[member] >= quota) {
                    decisive++;
                }
            }
            return decisive;
        }

        int powerOfAll(State state) {
            int sum = 0;
            for (int member = 0; member < state.memberCount; member++) {
                sum += decisiveByTrying(state, member);
            }
            return sum;
        }

        int fewestThatWin(State state) {
            int quota = state.neededShares();
            int groupCount = addUpGroups(state);
            int fewest = state.memberCount;
            for (int group = 0; group < groupCount; group++) {
                if (sharesOf[group] >= quota) {
                    fewest = Math.min(fewest, Integer.bitCount(group));
                }
            }
            return fewest;
        }

        int winningByTable(State state) {
            return countBetween(state.neededShares(), fillTable(state, NOBODY));
        }

        int decisiveByTable(State state, int member) {
            int quota = state.neededShares();
            fillTable(state, member);
            return countBetween(Math.max(0, quota - state.shares[member]), quota - 1);
        }

        /** Each member doubles the groups: those so far, and the same ones with the member. */
        private int addUpGroups(State state) {
            sharesOf[0] = 0;
            int groupCount = 1;
            for (int member = 0; member < state.memberCount; member++) {
                for (int group = 0; group < groupCount; group++) {
                    sharesOf[groupCount + group] = sharesOf[group] + state.shares[member];
                }
                groupCount *= 2;
            }
            return groupCount;
        }

        private int fillTable(State state, int leftOut) {
            int most = state.allShares();
            for (int sum = 1; sum <= most; sum++) {
                groupsWith[sum] = 0;
            }
            groupsWith[0] = 1;
            for (int member = 0; member < state.memberCount; member++) {
                int added = state.shares[member];
                // downwards, so that no group takes the same member twice
                for (int sum = most; sum >= added && member != leftOut; sum--) {
                    groupsWith[sum] += groupsWith[sum - added];
                }
            }
            return most;
        }

        private int countBetween(int least, int most) {
            int count = 0;
            for (int sum = least; sum <= most; sum++) {
                count += groupsWith[sum];
            }
            return count;
        }
    }

    /** The text buffer, and the commands that were read from it. */
    private static final class Program {
        static final int JOIN = 0;
        static final int WIND = 1;
        static final int TUNE = 2;
        static final int BUY = 3;
        static final int BEATS = 4;
        static final int QUARTER = 5;
        static final int VOTE = 6;

        private static final int KINDS = 7;
        private static final int MOST_TEXT = 60;
        // seven commands fit into the text; an eighth one can at most begin
        private static final int MOST_COMMANDS = 8;
        private static final int MOST_ARGUMENTS = 4;
        private static final char NUMBER = '#';
        private static final char DIGIT = '?';

        private final char[] text = new char[MOST_TEXT];
        private final int[] kinds = new int[MOST_COMMANDS];
        private final int[] arguments = new int[MOST_COMMANDS * MOST_ARGUMENTS];
        private int length = 0;
        int commandCount = 0;
        int position = 0;

        boolean isFull() {
            return length >= MOST_TEXT;
        }

        int add(char character) {
            text[length] = character;
            length++;
            return length;
        }

        void emptyText() {
            length = 0;
        }

        int kindOf(int command) {
            return kinds[command];
        }

        int argument(int command, int place) {
            return arguments[command * MOST_ARGUMENTS + place];
        }

        /** Tells if the text is a program; if not, the position is the error position. */
        boolean parse() {
            position = 0;
            commandCount = 0;
            boolean goesOn = true;
            for (int command = 0; goesOn && command < MOST_COMMANDS; command++) {
                if (!readCommand(command)) {
                    return false;
                }
                commandCount = command + 1;
                goesOn = readSign(';');
            }
            return !goesOn && position == length;
        }

        /** No two forms agree in two signs, so the one that goes furthest tells the error. */
        private boolean readCommand(int command) {
            int start = position;
            int furthest = start;
            for (int kind = 0; kind < KINDS; kind++) {
                position = start;
                if (readForm(formOf(kind), command)) {
                    kinds[command] = kind;
                    return true;
                }
                furthest = Math.max(furthest, position);
            }
            position = furthest;
            return false;
        }

        private static String formOf(int kind) {
            switch (kind) {
                case JOIN:
                    return "join # # # #";
                case WIND:
                    return "wind ? #";
                case TUNE:
                    return "tune ? #";
                case BUY:
                    return "buy ? #";
                case BEATS:
                    return "beats #";
                case QUARTER:
                    return "quarter";
                default:
                    return "vote # ?";
            }
        }

        private boolean readForm(String form, int command) {
            int place = command * MOST_ARGUMENTS;
            for (int index = 0; index < form.length(); index++) {
                char sign = form.charAt(index);
                if (sign != NUMBER && sign != DIGIT) {
                    if (!readSign(sign)) {
                        return false;
                    }
                } else if (seesDigit() && place < arguments.length) {
                    arguments[place] = readNumber(sign == NUMBER ? 2 : 1);
                    place++;
                } else {
                    return false;
                }
            }
            return true;
        }

        private boolean readSign(char sign) {
            if (position >= length || text[position] != sign) {
                return false;
            }
            position++;
            return true;
        }

        private boolean seesDigit() {
            return position < length && text[position] >= '0' && text[position] <= '9';
        }

        private int readNumber(int mostDigits) {
            int number = 0;
            for (int read = 0; read < mostDigits && seesDigit(); read++) {
                number = number * 10 + (text[position] - '0');
                position++;
            }
            return number;
        }
    }
}
