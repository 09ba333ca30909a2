/** The boundary cases of promises 43 to 46, a test for each sentence: programs. */
public final class EdgeProgramsTest {
    private static final Checks checks = new Checks();
    private static final String SIXTY =
            "beats 10;beats 10;beats 10;beats 10;beats 10;beats 1;quarter";
    private static final String SEVEN = "quarter;quarter;quarter;quarter;quarter;quarter;quarter";

    public static void main(String[] args) {
        lengthsOfText();
        charactersOfText();
        shortestPrograms();
        effectsOfCommands();
        longestPrograms();
        numbers();
        digits();
        wrongStarts();
        wrongSeparators();
        wrongSpaces();
        wrongArguments();
        strangeSigns();
        properPrefixes();
        errorPositions();
        emptiedBuffer();
        failingCommands();
        failingJoins();
        failingCalls();
        effectsOfFailures();
        failedCommands();
        checks.end();
    }

    private static int run(CricketCooperative c, String text) {
        View.type(c, text);
        return c.run();
    }

    private static void errorAt(int position, String text) {
        CricketCooperative c = View.withShares(1, 1, 1);
        View.type(c, text);
        checks.refuses(Checks.ARGUMENT, c, "run of '" + text + "'", c::run);
        checks.same("error position of '" + text + "'", position, c.errorPosition());
    }

    private static void failsAt(int command, CricketCooperative c, String text) {
        View.type(c, text);
        checks.refuses(Checks.UNSUPPORTED, c, "run of '" + text + "'", c::run);
        checks.same("failed command of '" + text + "'", command, c.failedCommand());
    }

    private static void lengthsOfText() {
        CricketCooperative c = new CricketCooperative();
        checks.test("43: append, the first character",
                () -> checks.same("append", 1, c.append('b')));
        checks.test("43: append, the sixtieth character", () -> {
            for (int length = 2; length < 60; length++) {
                checks.same("append", length, c.append('b'));
            }
            checks.same("append", 60, c.append('b'));
        });
        checks.test("43: append, the buffer contains 60 characters", () -> {
            checks.refuses(Checks.STATE, c, "append", () -> c.append('b'));
            checks.refuses(Checks.STATE, c, "append once more", () -> c.append('b'));
        });
        checks.test("43: append, a refused character is not in the buffer", () -> {
            CricketCooperative full = View.withShares(1);
            View.type(full, SIXTY);
            checks.throwsExactly(Checks.STATE, "append", () -> full.append('x'));
            checks.same("run", 7, full.run());
        });
        checks.test("43, 44: append, the buffer is empty again after a run", () -> {
            checks.throwsExactly(Checks.ARGUMENT, "run", c::run);
            checks.same("append", 1, c.append('b'));
        });
    }

    private static void charactersOfText() {
        checks.test("43: append, any character", () -> {
            CricketCooperative c = new CricketCooperative();
            char[] any = {0, '\n', ' ', 127, 128, 255, 256, 0xD800, 0xFFFF};
            for (int index = 0; index < any.length; index++) {
                checks.same("append", index + 1, c.append(any[index]));
            }
            checks.throwsExactly(Checks.ARGUMENT, "run", c::run);
            checks.same("errorPosition", 0, c.errorPosition());
        });
    }

    private static void shortestPrograms() {
        checks.test("44, Terms, programs: one command of each kind", () -> {
            CricketCooperative c = View.richMember(1, 5);
            checks.same("join", 1, run(c, "join 1 2 0 0"));
            checks.same("wind", 1, run(c, "wind 1 1"));
            checks.same("tune", 1, run(c, "tune 1 1"));
            checks.same("buy", 1, run(c, "buy 0 1"));
            checks.same("beats", 1, run(c, "beats 1"));
            checks.same("quarter", 1, run(c, "quarter"));
            checks.same("vote", 1, run(c, "vote 0 0"));
        });
        checks.test("44, Terms, programs: an empty text is no program", () -> errorAt(0, ""));
        checks.test("44: run, a vote that is not carried does not fail", () -> {
            CricketCooperative c = View.withTones(0, 6);
            checks.same("run", 1, run(c, "vote 3 0"));
            checks.same("house tone", 0, c.houseTone());
        });
        checks.test("44: run, an order of arguments as the commands say", () -> {
            CricketCooperative c = new CricketCooperative();
            run(c, "join 9 8 7 6");
            checks.same("shares, period, phase, tone", "9%8+7^6~0$0",
                    View.line(c, c.writeMember(0)));
            run(c, "join 1 2 0 0;wind 1 2;tune 1 3;vote 6 2");
            checks.same("member, turns, and member, tone", "1%2+0^3~2$0",
                    View.line(c, c.writeMember(1)));
            checks.same("tone", 6, c.houseTone());
            checks.same("tolerance", "0 1", c.dissents(0) + " " + c.dissents(1));
        });
    }

    /** The program before it has other arguments, which must not count any more. */
    private static void doesAs(String text, Probe.Call call) {
        checks.test("44: run does what the method does and no more: " + text, () -> {
            CricketCooperative typed = Recipes.full();
            CricketCooperative called = Recipes.full();
            checks.same("run before", typed.run(), called.run());
            checks.same("tune", run(typed, "tune 1 6"), run(called, "tune 1 6"));
            checks.same("run", 1, run(typed, text));
            call.on(called);
            checks.same("the state", View.of(called), View.of(typed));
        });
    }

    private static void effectsOfCommands() {
        doesAs("join 9 8 7 6", c -> c.addMember(9, 8, 7, 6));
        doesAs("wind 2 9", c -> c.wind(2, 9));
        doesAs("tune 3 10", c -> c.tune(3, 10));
        doesAs("buy 2 1", c -> c.buyShares(2, 1));
        doesAs("beats 11", c -> c.passBeats(11));
        doesAs("quarter", CricketCooperative::endQuarter);
        doesAs("vote 4 3", c -> c.vote(4, 3));
        checks.test("44: run, each command keeps its own arguments", () -> {
            CricketCooperative c = new CricketCooperative();
            checks.same("run", 4, run(c, "join 5 3 2 7;join 6 4 3 9;wind 1 8;join 4 11 10 1"));
            checks.same("line", "5%3+2^7~0$0", View.line(c, c.writeMember(0)));
            checks.same("line", "6%4+3^9~8$0", View.line(c, c.writeMember(1)));
            checks.same("line", "4%11+10^1~0$0", View.line(c, c.writeMember(2)));
        });
    }

    private static void longestPrograms() {
        checks.test("44: run, a program of 60 characters", () -> {
            CricketCooperative c = View.withShares(1);
            checks.same("length", 60, SIXTY.length());
            checks.same("run", 7, run(c, SIXTY));
            checks.same("beat", 51, c.beat());
            checks.same("quarters", 1, c.quarters());
        });
        checks.test("44: run, seven commands are the most that fit", () -> {
            CricketCooperative c = View.withShares(1);
            checks.same("run", 7, run(c, SEVEN));
            checks.same("quarters", 7, c.quarters());
        });
        checks.test("44: run, the commands are carried out in order", () -> {
            CricketCooperative c = new CricketCooperative();
            checks.same("run", 5, run(c, "join 1 2 0 0;wind 0 9;beats 4;quarter;beats 2"));
            checks.same("purse", 2, c.purse(0));
            checks.same("surplus", 1, c.surplus());
        });
        checks.test("44: run, a shorter program after a longer one", () -> {
            CricketCooperative c = View.withShares(1);
            run(c, SEVEN);
            checks.same("run", 1, run(c, "beats 1"));
            checks.same("quarters", 7, c.quarters());
            checks.same("beat", 1, c.beat());
        });
    }

    private static void numbers() {
        checks.test("44, Terms, programs: a number of one digit", () -> {
            CricketCooperative c = new CricketCooperative();
            checks.same("run", 1, run(c, "beats 9"));
            checks.same("beat", 9, c.beat());
        });
        checks.test("44, Terms, programs: a number of two digits", () -> {
            CricketCooperative c = new CricketCooperative();
            checks.same("run", 1, run(c, "beats 60"));
            checks.same("beat", 60, c.beat());
        });
        checks.test("44, Terms, programs: a number with a leading zero", () -> {
            CricketCooperative c = new CricketCooperative();
            checks.same("run", 2, run(c, "beats 08;join 01 02 00 09"));
            checks.same("beat", 8, c.beat());
            checks.same("line", "1%2+0^9~0$0", View.line(c, c.writeMember(0)));
        });
        checks.test("44, 45, Terms, programs: a third digit is wrong", () -> {
            errorAt(8, "beats 100");
            errorAt(7, "join 100 2 0 0");
            errorAt(9, "join 1 100 0 0");
            errorAt(11, "join 1 2 100 0");
            errorAt(13, "join 1 2 0 100");
            errorAt(9, "wind 0 100");
            errorAt(9, "tune 0 100");
            errorAt(8, "buy 0 100");
            errorAt(7, "vote 100 0");
        });
    }

    private static void digits() {
        checks.test("44, 45, Terms, programs: a second digit where one is asked for", () -> {
            errorAt(6, "wind 00 1");
            errorAt(6, "tune 00 1");
            errorAt(5, "buy 00 1");
            errorAt(8, "vote 0 00");
        });
        checks.test("44, Terms, programs: the digits 0 and 9 are digits", () -> {
            CricketCooperative c = View.withShares(1);
            checks.same("run", 2, run(c, "tune 0 9;beats 9"));
            failsAt(0, c, "wind 9 1");
        });
    }

    private static void wrongStarts() {
        checks.test("44, 45: the first character begins no command", () -> {
            errorAt(0, "x");
            errorAt(0, "1");
            errorAt(0, " beats 1");
            errorAt(0, "Beats 1");
        });
        checks.test("44, 45: a command that ends otherwise", () -> {
            errorAt(1, "bx");
            errorAt(2, "buats 1");
            errorAt(2, "bey 0 1");
            errorAt(3, "joim 1 2 0 0");
            errorAt(3, "winx 0 1");
            errorAt(3, "tunx 0 1");
            errorAt(4, "beatx 1");
            errorAt(6, "quartex");
            errorAt(3, "votx 0 0");
        });
    }

    private static void wrongSeparators() {
        checks.test("44, 45: a text that begins with a semicolon", () -> errorAt(0, ";quarter"));
        checks.test("44, 45: two semicolons", () -> errorAt(8, "quarter;;quarter"));
        checks.test("44, 45: a space behind a semicolon", () -> errorAt(8, "quarter; quarter"));
        checks.test("44, 45: a space before a semicolon", () -> errorAt(7, "quarter ;quarter"));
        checks.test("44, 45: no semicolon between commands", () -> {
            errorAt(7, "quarterquarter");
            errorAt(7, "beats 1beats 1");
            errorAt(8, "beats 10beats 1");
        });
        checks.test("44, 45: another sign than a semicolon", () -> errorAt(7, "beats 1,beats 1"));
        checks.test("44, 45: a semicolon within a command", () -> {
            errorAt(5, "beats;");
            errorAt(6, "beats ;");
            errorAt(12, "join 1 2 0 0 ;");
            errorAt(10, "join 1 2 0;");
        });
    }

    private static void wrongSpaces() {
        checks.test("44, 45: two spaces", () -> {
            errorAt(6, "beats  1");
            errorAt(7, "wind 0  1");
            errorAt(11, "join 1 2 0  0");
        });
        checks.test("44, 45: no space", () -> {
            errorAt(5, "beats1");
            errorAt(4, "wind0 1");
            errorAt(6, "wind 01");
        });
        checks.test("44, 45: a space at the end", () -> {
            errorAt(7, "beats 1 ");
            errorAt(8, "beats 10 ");
            errorAt(8, "vote 0 0 ");
            errorAt(7, "quarter ");
        });
    }

    private static void wrongArguments() {
        checks.test("44, 45: too many arguments", () -> {
            errorAt(7, "quarter 1");
            errorAt(7, "beats 1 1");
            errorAt(8, "wind 0 1 1");
            errorAt(12, "join 1 2 0 0 0");
        });
        checks.test("44, 45: too few arguments before another command", () -> {
            errorAt(5, "beats;beats 1");
            errorAt(6, "vote 0;beats 1");
            errorAt(8, "join 1 2;beats 1");
        });
        checks.test("44, 45: an argument that is no number", () -> {
            errorAt(6, "beats x");
            errorAt(6, "beats -1");
            errorAt(6, "beats +1");
            errorAt(5, "wind x 1");
            errorAt(7, "wind 0 x");
            errorAt(7, "vote 0 x");
        });
    }

    private static void strangeSigns() {
        checks.test("44, 45: the signs beside the digits are none", () -> {
            errorAt(6, "beats /");
            errorAt(6, "beats :");
            errorAt(7, "beats 1/");
            errorAt(7, "beats 1:");
        });
        checks.test("44, 45: other digits than 0 to 9 are none",
                () -> errorAt(6, "beats " + (char) 0x661));
        checks.test("44, 45: the characters 0 and 65535", () -> {
            errorAt(5, "beats" + (char) 0);
            errorAt(7, "quarter" + (char) 65535);
        });
        checks.test("44, 45: characters that agree in their lower byte only",
                () -> errorAt(0, (char) ('q' + 256) + "uarter"));
    }

    private static void properPrefixes() {
        String[] texts = {"join 50 12 11 1", "wind 0 1", "tune 0 1", "buy 0 1", "beats 1", "quarter",
            "vote 0 1"};
        for (String text : texts) {
            checks.test("44, 45: a proper prefix of a program: " + text, () -> {
                for (int length = 0; length < text.length(); length++) {
                    errorAt(length, text.substring(0, length));
                    errorAt(8 + length, "quarter;" + text.substring(0, length));
                }
            });
        }
        checks.test("44, 45: a prefix of a longer program that is a program itself", () -> {
            CricketCooperative c = new CricketCooperative();
            checks.same("join", 1, run(c, "join 50 12 11 1"));
            checks.same("beats", 1, run(c, "beats 6"));
            checks.throwsExactly(Checks.NO_SUCH, "errorPosition", c::errorPosition);
        });
        checks.test("44, 45: a proper prefix of 60 characters", () -> {
            errorAt(60, SEVEN + ";beat");
            errorAt(60, SIXTY.substring(0, 53) + "wind 0 ");
        });
        checks.test("44, 45: a proper prefix that ends with a semicolon", () -> {
            errorAt(8, "quarter;");
            errorAt(56, SEVEN + ";");
        });
    }

    private static void errorPositions() {
        checks.test("45: errorPosition, none was stored", () -> {
            CricketCooperative c = View.withShares(1);
            checks.refuses(Checks.NO_SUCH, c, "errorPosition", c::errorPosition);
            run(c, "quarter");
            checks.refuses(Checks.NO_SUCH, c, "after a program", c::errorPosition);
            failsAt(0, c, "beats 0");
            checks.refuses(Checks.NO_SUCH, c, "after a failure", c::errorPosition);
        });
        checks.test("45: errorPosition, 0 at the least", () -> errorAt(0, "?"));
        checks.test("45: errorPosition, the last of 60 characters",
                () -> errorAt(59, SEVEN + ";buyx"));
        checks.test("45: errorPosition, the first of several wrong characters",
                () -> errorAt(6, "beats x;y;z"));
        checks.test("45: errorPosition, the one that was stored last", () -> {
            CricketCooperative c = View.withShares(1);
            View.type(c, "beats x");
            checks.throwsExactly(Checks.ARGUMENT, "run", c::run);
            checks.same("errorPosition", 6, c.errorPosition());
            View.type(c, "bx");
            checks.throwsExactly(Checks.ARGUMENT, "run", c::run);
            checks.same("errorPosition", 1, c.errorPosition());
            checks.throwsExactly(Checks.ARGUMENT, "run of nothing", c::run);
            checks.same("errorPosition", 0, c.errorPosition());
        });
        checks.test("45: errorPosition, programs and failures leave it", () -> {
            CricketCooperative c = View.withShares(1);
            View.type(c, "beats x");
            checks.throwsExactly(Checks.ARGUMENT, "run", c::run);
            run(c, "quarter");
            checks.same("after a program", 6, c.errorPosition());
            failsAt(0, c, "beats 0");
            checks.same("after a failure", 6, c.errorPosition());
        });
    }

    private static void emptiedBuffer() {
        checks.test("44: run, the buffer is empty after a program", () -> {
            CricketCooperative c = View.withShares(1);
            run(c, "quarter");
            checks.same("append", 1, c.append('q'));
        });
        checks.test("44: run, the buffer is empty after a text that is no program", () -> {
            CricketCooperative c = View.withShares(1);
            View.type(c, "quart");
            checks.throwsExactly(Checks.ARGUMENT, "run", c::run);
            checks.same("append", 1, c.append('q'));
            View.type(c, "uarter");
            checks.same("run", 1, c.run());
        });
        checks.test("44: run, the buffer is empty after a command that fails", () -> {
            CricketCooperative c = View.withShares(1);
            View.type(c, "quarter;beats 0");
            checks.throwsExactly(Checks.UNSUPPORTED, "run", c::run);
            checks.same("append", 1, c.append('q'));
            View.type(c, "uarter");
            checks.same("run", 1, c.run());
        });
        checks.test("44: run, two runs without a text between them", () -> {
            CricketCooperative c = View.withShares(1);
            run(c, "quarter");
            checks.refuses(Checks.ARGUMENT, c, "run", c::run);
            checks.same("errorPosition", 0, c.errorPosition());
        });
    }

    private static void failingCommands() {
        checks.test("44, 46: run, the first command fails",
                () -> failsAt(0, View.withShares(1), "beats 0;quarter"));
        checks.test("44, 46: run, the last of seven commands fails", () -> failsAt(6,
                View.withShares(1), "quarter;quarter;quarter;quarter;quarter;quarter;beats 0"));
        checks.test("44, 46: run, the first of several commands that fail",
                () -> failsAt(1, View.withShares(1), "quarter;beats 0;beats 0"));
        checks.test("44, 46: run, a command fails by what an earlier one did", () -> {
            failsAt(1, View.withShares(1), "wind 0 60;wind 0 1");
            failsAt(2, View.richMember(1, 5), "beats 1;buy 0 1;buy 0 1");
            failsAt(1, View.withShares(1, 1, 1, 1, 1, 1, 1), "join 1 2 0 0;join 1 2 0 0");
        });
        checks.test("44, 46: run, a command does not fail by what an earlier one did", () -> {
            CricketCooperative c = new CricketCooperative();
            checks.same("run", 2, run(c, "join 1 2 0 0;quarter"));
            checks.same("run", 3, run(c, "wind 0 60;beats 60;wind 0 30"));
        });
        checks.test("44: run, no program, though its first command would fail", () -> {
            CricketCooperative c = View.withShares(1);
            View.type(c, "beats 0;x");
            checks.refuses(Checks.ARGUMENT, c, "run", c::run);
            checks.same("errorPosition", 8, c.errorPosition());
            checks.refuses(Checks.NO_SUCH, c, "failedCommand", c::failedCommand);
        });
    }

    private static void failingJoins() {
        checks.test("44, 46: join fails, 0 and 51 shares", () -> {
            failsAt(0, new CricketCooperative(), "join 0 2 0 0");
            failsAt(0, new CricketCooperative(), "join 51 2 0 0");
        });
        checks.test("44, 46: join fails, periods of 1 and 13", () -> {
            failsAt(0, new CricketCooperative(), "join 1 1 0 0");
            failsAt(0, new CricketCooperative(), "join 1 13 0 0");
        });
        checks.test("44, 46: join fails, a phase that is the period",
                () -> failsAt(0, new CricketCooperative(), "join 1 2 2 0"));
        checks.test("44, 46: join fails, the tone 12",
                () -> failsAt(0, new CricketCooperative(), "join 1 2 0 12"));
        checks.test("44, 46: join fails, the ninth member", () -> failsAt(0,
                View.withShares(1, 1, 1, 1, 1, 1, 1, 1), "join 1 2 0 0"));
    }

    private static void failingCalls() {
        checks.test("44, 46: wind fails, no such member",
                () -> failsAt(0, View.withShares(1), "wind 1 1"));
        checks.test("44, 46: wind fails, 0 and 61 turns", () -> {
            failsAt(0, View.withShares(1), "wind 0 0");
            failsAt(0, View.withShares(1), "wind 0 61");
        });
        checks.test("44, 46: tune fails, no such member and the tone 12", () -> {
            failsAt(0, View.withShares(1), "tune 1 0");
            failsAt(0, View.withShares(1), "tune 0 12");
        });
        checks.test("44, 46: buy fails, no such member", () -> failsAt(0, View.richMember(1, 5),
                "buy 1 1"));
        checks.test("44, 46: buy fails, 0 and 50 shares", () -> {
            failsAt(0, View.richMember(1, 250), "buy 0 0");
            failsAt(0, View.richMember(1, 250), "buy 0 50");
        });
        checks.test("44, 46: buy fails, the member would have 51 shares",
                () -> failsAt(0, View.richMember(2, 250), "buy 0 49"));
        checks.test("44, 46: buy fails, too few coins",
                () -> failsAt(0, View.richMember(1, 4), "buy 0 1"));
        checks.test("44, 46: beats fails, 0 and 61 beats", () -> {
            failsAt(0, View.withShares(1), "beats 0");
            failsAt(0, View.withShares(1), "beats 61");
        });
        checks.test("44, 46: quarter fails, there are no members",
                () -> failsAt(0, new CricketCooperative(), "quarter"));
        checks.test("44, 46: vote fails, the tone 12 and the tolerance 7", () -> {
            failsAt(0, View.withShares(1), "vote 12 0");
            failsAt(0, View.withShares(1), "vote 0 7");
        });
    }

    private static CricketCooperative clashing() {
        CricketCooperative c = View.withTones(0, 6, 3);
        c.wind(0, 5);
        c.wind(1, 3);
        c.passBeats(8);
        return c;
    }

    /** A second failure at the end tells that nothing of the first one counts. */
    private static void effectsOfFailures() {
        String[] effects = {"join 1 2 0 0", "wind 0 9", "tune 0 9", "beats 9", "quarter", "vote 3 3",
            "wind 1 9;wind 0 9;beats 9"};
        for (String effect : effects) {
            checks.test("44: run, no effect if a later command fails: " + effect, () -> {
                CricketCooperative c = clashing();
                int commands = effect.split(";").length;
                failsAt(commands, c, effect + ";beats 0");
                failsAt(commands, c, effect + ";beats 0");
            });
        }
        checks.test("44: run, no effect if a later command fails: buy 0 1", () -> failsAt(1,
                View.richMember(1, 5), "buy 0 1;beats 0"));
        checks.test("44, 49: run, a failed one cannot be undone and takes no place", () -> {
            CricketCooperative c = View.withShares(1, 1);
            failsAt(2, c, "quarter;beats 1;beats 0");
            checks.same("undo", 1, c.undo());
            checks.same("members", 1, c.memberCount());
        });
    }

    private static void failedCommands() {
        checks.test("46: failedCommand, none was stored", () -> {
            CricketCooperative c = View.withShares(1);
            checks.refuses(Checks.NO_SUCH, c, "failedCommand", c::failedCommand);
            run(c, "quarter");
            checks.refuses(Checks.NO_SUCH, c, "after a program", c::failedCommand);
            c.append('x');
            checks.throwsExactly(Checks.ARGUMENT, "run", c::run);
            checks.refuses(Checks.NO_SUCH, c, "after no program", c::failedCommand);
        });
        checks.test("46: failedCommand, the one that was stored last", () -> {
            CricketCooperative c = View.withShares(1);
            failsAt(1, c, "quarter;beats 0");
            failsAt(2, c, "quarter;quarter;beats 0");
            failsAt(0, c, "beats 0");
        });
        checks.test("46: failedCommand, programs and other texts leave it", () -> {
            CricketCooperative c = View.withShares(1);
            failsAt(1, c, "quarter;beats 0");
            run(c, "quarter");
            checks.same("after a program", 1, c.failedCommand());
            c.append('x');
            checks.throwsExactly(Checks.ARGUMENT, "run", c::run);
            checks.same("after no program", 1, c.failedCommand());
        });
        checks.test("46: failedCommand, a refused call outside a program stores none", () -> {
            CricketCooperative c = View.withShares(1);
            checks.throwsExactly(Checks.ARGUMENT, "passBeats", () -> c.passBeats(0));
            checks.throwsExactly(Checks.NO_SUCH, "failedCommand", c::failedCommand);
        });
    }
}
