import java.util.NoSuchElementException;

/** Promises 43 to 48: programs and the output line. */
public final class ProgramsTest {
    private static final Checks checks = new Checks();
    private static final Class<IndexOutOfBoundsException> INDEX = IndexOutOfBoundsException.class;
    private static final Class<IllegalArgumentException> ARGUMENT = IllegalArgumentException.class;
    private static final Class<IllegalStateException> STATE = IllegalStateException.class;
    private static final Class<NoSuchElementException> NO_SUCH = NoSuchElementException.class;
    private static final Class<UnsupportedOperationException> UNSUPPORTED =
            UnsupportedOperationException.class;

    public static void main(String[] args) {
        checks.test("43: append", ProgramsTest::appending);
        checks.test("44: run carries the commands out", ProgramsTest::commands);
        checks.test("44: run, many commands", ProgramsTest::manyCommands);
        checks.test("44: run, numbers of one and two digits", ProgramsTest::numbers);
        checks.test("44: run empties the buffer in every case", ProgramsTest::bufferIsEmptied);
        checks.test("44: run, a command fails", ProgramsTest::commandFails);
        checks.test("44: run, each kind of command can fail", ProgramsTest::kindsFail);
        checks.test("44, 45: run, the text is not a program", ProgramsTest::notPrograms);
        checks.test("44, 45: run, the text is a part of a program", ProgramsTest::properPrefixes);
        checks.test("45: errorPosition", ProgramsTest::errorPosition);
        checks.test("46: failedCommand", ProgramsTest::failedCommand);
        checks.test("47: writeMember", ProgramsTest::writing);
        checks.test("47: writeMember, no such member", ProgramsTest::writingRefused);
        checks.test("48: outputAt", ProgramsTest::output);
        checks.end();
    }

    private static int run(CricketCooperative c, String text) {
        View.type(c, text);
        return c.run();
    }

    private static void appending() {
        CricketCooperative c = new CricketCooperative();
        char[] any = {'b', ' ', (char) 0, (char) 65535, '\n'};
        for (int length = 1; length <= 60; length++) {
            char character = any[length % any.length];
            checks.same("append", length, c.append(character));
        }
        checks.refuses(STATE, c, "append the 61st", () -> c.append('b'));
        checks.refuses(STATE, c, "append the 61st", () -> c.append((char) 0));
        checks.throwsExactly(ARGUMENT, "run", c::run);
        checks.same("append", 1, c.append('b'));
    }

    private static void commands() {
        CricketCooperative c = new CricketCooperative();
        checks.same("join", 1, run(c, "join 10 3 2 7"));
        checks.same("join", 1, run(c, "join 20 12 11 0"));
        checks.same("line", "10%3+2^7~0$0", View.line(c, c.writeMember(0)));
        checks.same("line", "20%12+11^0~0$0", View.line(c, c.writeMember(1)));
        checks.same("wind", 1, run(c, "wind 0 60"));
        checks.same("spring", 60, c.spring(0));
        checks.same("tune", 1, run(c, "tune 1 11"));
        checks.same("tone", 11, c.tone(1));
        checks.same("beats", 1, run(c, "beats 60"));
        checks.same("beat", 60, c.beat());
        checks.same("surplus", 20, c.surplus());
        checks.same("quarter", 1, run(c, "quarter"));
        checks.same("purses", "7 13", c.purse(0) + " " + c.purse(1));
        checks.same("buy", 1, run(c, "buy 1 2"));
        checks.same("shares", 22, c.shares(1));
        checks.same("vote", 1, run(c, "vote 8 3"));
        checks.same("house tone", 8, c.houseTone());
        checks.same("vote", 1, run(c, "vote 1 0"));
        checks.same("not carried", 8, c.houseTone());
        checks.same("vote", 1, run(c, "vote 11 2"));
        checks.same("house tone", 11, c.houseTone());
        checks.same("dissents", "1 0", c.dissents(0) + " " + c.dissents(1));
    }

    private static void manyCommands() {
        CricketCooperative c = new CricketCooperative();
        checks.same("run", 3, run(c, "join 10 2 0 0;wind 0 20;beats 9"));
        checks.same("surplus", 4, c.surplus());
        checks.same("run", 5, run(c, "quarter;beats 1;tune 0 5;vote 5 0;join 1 2 0 0"));
        checks.same("view of two", 2, c.memberCount());
        checks.same("purse", 4, c.purse(0));
        checks.same("house tone", 5, c.houseTone());
        checks.same("run", 7, run(c, "quarter;quarter;quarter;quarter;quarter;quarter;quarter"));
        checks.same("quarters", 8, c.quarters());
        checks.same("run", 7, run(c, "beats 1;wind 0 1;wind 0 2;beats 2;beats 3;quarter;vote 0 0"));
        checks.same("beat", 16, c.beat());
        CricketCooperative joined = new CricketCooperative();
        checks.same("run", 3, run(joined, "join 5 3 2 7;join 6 4 3 9;wind 0 8"));
        checks.same("line", "5%3+2^7~8$0", View.line(joined, joined.writeMember(0)));
        checks.same("line", "6%4+3^9~0$0", View.line(joined, joined.writeMember(1)));
        String sixty = "beats 10;beats 10;beats 10;beats 10;beats 10;beats 1;quarter";
        checks.same("length", 60, sixty.length());
        checks.same("run", 7, run(c, sixty));
        checks.same("beat", 67, c.beat());
    }

    private static void numbers() {
        CricketCooperative c = new CricketCooperative();
        checks.same("leading zeros", 1, run(c, "join 01 02 00 09"));
        checks.same("line", "1%2+0^9~0$0", View.line(c, c.writeMember(0)));
        checks.same("leading zeros", 3, run(c, "wind 0 07;tune 0 00;beats 02"));
        checks.same("line", "1%2+0^0~6$0", View.line(c, c.writeMember(0)));
        checks.same("leading zero", 1, run(c, "vote 00 6"));
        checks.same("two digits", 1, run(c, "join 50 12 11 11"));
        checks.same("line", "50%12+11^11~0$0", View.line(c, c.writeMember(1)));
    }

    private static void bufferIsEmptied() {
        CricketCooperative c = View.withShares(1);
        run(c, "quarter");
        checks.same("after a run", 1, c.append('x'));
        checks.throwsExactly(ARGUMENT, "run", c::run);
        checks.same("after no program", 1, c.append('b'));
        View.type(c, "eats 61");
        checks.throwsExactly(UNSUPPORTED, "run", c::run);
        checks.same("after a failure", 1, c.append('q'));
        View.type(c, "uarter");
        checks.same("run", 1, c.run());
        checks.throwsExactly(ARGUMENT, "run of nothing", c::run);
        checks.same("error position", 0, c.errorPosition());
    }

    private static void failsAt(CricketCooperative c, int command, String text) {
        View.type(c, text);
        checks.refuses(UNSUPPORTED, c, text, c::run);
        checks.same("the failed command of " + text, command, c.failedCommand());
    }

    private static void commandFails() {
        CricketCooperative c = View.withTones(0, 5);
        c.wind(0, 30);
        failsAt(c, 0, "wind 2 1");
        failsAt(c, 1, "wind 0 30;wind 0 1");
        failsAt(c, 2, "wind 1 9;beats 60;beats 0;quarter");
        failsAt(c, 4, "tune 0 3;quarter;vote 4 6;join 1 2 0 0;wind 3 1");
        failsAt(c, 6, "quarter;quarter;quarter;quarter;quarter;quarter;vote 12 0");
        failsAt(c, 0, "buy 0 1;buy 0 1;quarter");
        // what an earlier command does counts for the later ones
        checks.same("run", 3, run(c, "join 1 2 0 0;wind 2 1;wind 2 59"));
        checks.same("undo", 3, c.undo());
        failsAt(c, 3, "beats 20;quarter;buy 0 1;buy 0 1;quarter");
    }

    private static void kindsFail() {
        CricketCooperative c = new CricketCooperative();
        failsAt(c, 0, "quarter");
        failsAt(c, 0, "join 0 2 0 0");
        failsAt(c, 0, "join 51 2 0 0");
        failsAt(c, 0, "join 1 13 0 0");
        failsAt(c, 0, "join 1 2 2 0");
        failsAt(c, 0, "join 1 2 0 12");
        failsAt(c, 1, "join 1 2 0 0;wind 1 5");
        failsAt(c, 1, "join 1 2 0 0;wind 0 0");
        failsAt(c, 1, "join 1 2 0 0;wind 0 61");
        failsAt(c, 1, "join 1 2 0 0;tune 1 5");
        failsAt(c, 1, "join 1 2 0 0;tune 0 12");
        failsAt(c, 1, "join 1 2 0 0;buy 1 1");
        failsAt(c, 1, "join 1 2 0 0;buy 0 0");
        failsAt(c, 1, "join 1 2 0 0;buy 0 50");
        failsAt(c, 1, "join 2 2 0 0;buy 0 49");
        failsAt(c, 1, "join 1 2 0 0;buy 0 1");
        failsAt(c, 0, "beats 0");
        failsAt(c, 0, "beats 61");
        failsAt(c, 0, "vote 12 0");
        failsAt(c, 0, "vote 0 7");
        for (int member = 0; member < 8; member++) {
            c.addMember(1, 2, 0, 0);
        }
        failsAt(c, 0, "join 1 2 0 0");
        failsAt(c, 0, "wind 8 1");
        failsAt(c, 0, "wind 9 1");
    }

    private static void errorAt(int position, String text) {
        CricketCooperative c = View.withShares(1, 1, 1);
        View.type(c, text);
        checks.refuses(ARGUMENT, c, "run of '" + text + "'", c::run);
        checks.same("error position of '" + text + "'", position, c.errorPosition());
    }

    private static void notPrograms() {
        errorAt(0, "x");
        errorAt(0, " quarter");
        errorAt(0, ";quarter");
        errorAt(0, "Quarter");
        errorAt(0, "5");
        errorAt(1, "bx");
        errorAt(2, "bux");
        errorAt(2, "bet");
        errorAt(3, "buyx");
        errorAt(4, "beat 5");
        errorAt(5, "beatsx");
        errorAt(4, "beat;");
        errorAt(4, "joinx");
        errorAt(5, "join  1 2 3 4");
        errorAt(5, "join ;");
        errorAt(7, "join 12;");
        errorAt(7, "join 123 2 0 0");
        errorAt(10, "join 1 2 0;");
        errorAt(12, "join 1 2 0 0 0");
        errorAt(14, "join 1 2 0 0;qx");
        errorAt(5, "wind x");
        errorAt(6, "wind 00");
        errorAt(6, "wind 0;");
        errorAt(7, "wind 0 x");
        errorAt(9, "wind 0 123");
        errorAt(9, "wind 0 12 ");
        errorAt(8, "wind 0 1x");
        errorAt(6, "tune 10 1");
        errorAt(7, "tune 1 -1");
        errorAt(1, "tx");
        errorAt(5, "buy 12 1");
        errorAt(6, "buy 1 ;");
        errorAt(6, "beats -1");
        errorAt(8, "beats 600");
        errorAt(7, "quarter ");
        errorAt(7, "quarterquarter");
        errorAt(6, "quarte;r");
        errorAt(8, "vote 1 11");
        errorAt(7, "vote 11;1");
        errorAt(7, "vote 111 1");
        errorAt(8, "quarter; quarter");
        errorAt(8, "quarter;;quarter");
        errorAt(9, "quarter;bx");
        errorAt(16, "beats 1;beats 2;Beats 3");
        errorAt(7, "beats 1,beats 2");
        errorAt(7, "beats 1" + (char) 0x661);
        errorAt(6, "beats " + (char) 0x661);
        errorAt(6, "beats /");
        errorAt(6, "beats :");
        errorAt(56, "quarter;quarter;quarter;quarter;quarter;quarter;quarter;x");
        errorAt(59, "quarter;quarter;quarter;quarter;quarter;quarter;quarter;buyx");
    }

    private static void properPrefixes() {
        String[] programs = {"join 12 11 10 11;wind 0 60;tune 1 11", "buy 2 49;beats 60;quarter;vote 11 6"};
        for (String program : programs) {
            for (int length = 0; length < program.length(); length++) {
                String text = program.substring(0, length);
                if (!isProgram(text)) {
                    errorAt(length, text);
                }
            }
        }
        errorAt(60, "quarter;quarter;quarter;quarter;quarter;quarter;quarter;beat");
        errorAt(56, "quarter;quarter;quarter;quarter;quarter;quarter;quarter;");
        errorAt(60, "beats 10;beats 10;beats 10;beats 10;beats 10;beats 1;vote 1 ");
        errorAt(60, "wind 0 1;wind 0 1;wind 0 1;wind 0 1;wind 0 1;wind 0 1;beats ");
    }

    private static boolean isProgram(String text) {
        String command = "(join \\d\\d? \\d\\d? \\d\\d? \\d\\d?|(wind|tune|buy) \\d \\d\\d?|beats \\d\\d?"
                + "|quarter|vote \\d\\d? \\d)";
        return text.matches(command + "(;" + command + ")*");
    }

    private static void errorPosition() {
        CricketCooperative c = View.withShares(1);
        checks.throwsExactly(NO_SUCH, "none", c::errorPosition);
        run(c, "quarter");
        View.type(c, "beats 0");
        checks.throwsExactly(UNSUPPORTED, "run", c::run);
        checks.throwsExactly(NO_SUCH, "still none", c::errorPosition);
        View.type(c, "beats x");
        checks.throwsExactly(ARGUMENT, "run", c::run);
        checks.same("errorPosition", 6, c.errorPosition());
        c.append('?');
        checks.same("errorPosition", 6, c.errorPosition());
        checks.throwsExactly(ARGUMENT, "run", c::run);
        checks.same("errorPosition", 0, c.errorPosition());
        View.type(c, "be");
        checks.throwsExactly(ARGUMENT, "run", c::run);
        checks.same("errorPosition", 2, c.errorPosition());
        run(c, "quarter");
        c.undo();
        checks.same("it stays", 2, c.errorPosition());
    }

    private static void failedCommand() {
        CricketCooperative c = View.withShares(1);
        checks.throwsExactly(NO_SUCH, "none", c::failedCommand);
        run(c, "quarter");
        c.append('x');
        checks.throwsExactly(ARGUMENT, "run", c::run);
        checks.throwsExactly(NO_SUCH, "still none", c::failedCommand);
        failsAt(c, 1, "quarter;beats 0");
        checks.same("the error position stays", 0, c.errorPosition());
        failsAt(c, 0, "beats 0;beats 0");
        run(c, "quarter");
        c.undo();
        checks.same("it stays", 0, c.failedCommand());
    }

    private static void writing() {
        CricketCooperative c = new CricketCooperative();
        c.addMember(12, 5, 3, 7);
        c.wind(0, 24);
        c.passBeats(18);
        checks.same("length", 13, c.writeMember(0));
        checks.same("line", "12%5+3^7~20$0", View.line(c, 13));
        c.endQuarter();
        String before = View.of(c);
        checks.same("length", 13, c.writeMember(0));
        checks.same("the line of the document", "12%5+3^7~20$4", View.line(c, 13));
        checks.same("view", before, View.of(c));
        CricketCooperative rich = View.richMember(50, 245);
        checks.same("length", 14, rich.writeMember(0));
        checks.same("line", "50%2+0^0~0$245", View.line(rich, 14));
    }

    private static void writingRefused() {
        CricketCooperative c = View.withShares(7, 8);
        int length = c.writeMember(1);
        int[] none = {-1, 2, 8, Integer.MIN_VALUE, Integer.MAX_VALUE};
        for (int member : none) {
            checks.throwsExactly(INDEX, "writeMember " + member, () -> c.writeMember(member));
            checks.same("the line stays", "8%2+0^0~0$0", View.line(c, length));
        }
    }

    private static void output() {
        CricketCooperative c = View.withShares(12, 3);
        checks.throwsExactly(INDEX, "0 of the empty line", () -> c.outputAt(0));
        checks.throwsExactly(INDEX, "-1 of the empty line", () -> c.outputAt(-1));
        checks.same("length", 12, c.writeMember(0));
        checks.same("line", "12%2+0^0~0$0", View.line(c, 12));
        checks.same("first", '1', c.outputAt(0));
        checks.same("last", '0', c.outputAt(11));
        checks.throwsExactly(INDEX, "12", () -> c.outputAt(12));
        checks.throwsExactly(INDEX, "-1", () -> c.outputAt(-1));
        checks.throwsExactly(INDEX, "far", () -> c.outputAt(Integer.MAX_VALUE));
        checks.throwsExactly(INDEX, "least", () -> c.outputAt(Integer.MIN_VALUE));
        c.wind(0, 5);
        checks.same("the line stays", "12%2+0^0~0$0", View.line(c, 12));
        checks.same("length", 11, c.writeMember(1));
        checks.same("line", "3%2+0^0~0$0", View.line(c, 11));
        checks.throwsExactly(INDEX, "after a shorter line", () -> c.outputAt(11));
    }
}
