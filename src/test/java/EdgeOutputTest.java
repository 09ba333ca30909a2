/** The boundary cases of promises 47 and 48, a test for each sentence: the output line. */
public final class EdgeOutputTest {
    private static final Checks checks = new Checks();

    public static void main(String[] args) {
        lines();
        linesOfNobody();
        linesReplaced();
        characters();
        noCharacters();
        checks.end();
    }

    private static void writes(CricketCooperative c, int member, String due) {
        checks.same("writeMember", due.length(), c.writeMember(member));
        checks.same("line", due, View.line(c, due.length()));
        checks.throwsExactly(Checks.INDEX, "behind the line", () -> c.outputAt(due.length()));
    }

    private static void lines() {
        checks.test("47: writeMember, the example of the document", () -> {
            CricketCooperative c = new CricketCooperative();
            c.addMember(12, 5, 3, 7);
            c.wind(0, 24);
            c.passBeats(18);
            c.endQuarter();
            writes(c, 0, "12%5+3^7~20$4");
        });
        checks.test("47: writeMember, the least of each number",
                () -> writes(View.withShares(1), 0, "1%2+0^0~0$0"));
        checks.test("47: writeMember, the greatest of each number", () -> {
            CricketCooperative c = View.richMember(50, 1000);
            writes(c, 0, "50%2+0^0~0$1000");
            c.addMember(50, 12, 11, 11);
            c.wind(1, 60);
            writes(c, 1, "50%12+11^11~60$0");
        });
        checks.test("47: writeMember, the eighth member", () -> writes(
                View.withShares(1, 1, 1, 1, 1, 1, 1, 9), 7, "9%2+0^0~0$0"));
    }

    private static void linesOfNobody() {
        CricketCooperative c = View.withShares(7, 8);
        checks.test("47: writeMember, no member -1", () -> checks.refuses(Checks.INDEX, c,
                "writeMember", () -> c.writeMember(-1)));
        checks.test("47: writeMember, no member m", () -> checks.refuses(Checks.INDEX, c,
                "writeMember", () -> c.writeMember(2)));
        checks.test("47: writeMember, no member without members", () -> {
            CricketCooperative empty = new CricketCooperative();
            checks.refuses(Checks.INDEX, empty, "writeMember", () -> empty.writeMember(0));
        });
        checks.test("47: writeMember, no members far away", () -> checks.refusesEach(Checks.INDEX, c,
                "member", Checks.NOBODY, member -> c.writeMember(member)));
        checks.test("47, 48: a refused writeMember leaves an empty line",
                () -> checks.throwsExactly(Checks.INDEX, "outputAt", () -> c.outputAt(0)));
        checks.test("47, 48: a refused writeMember leaves the line of another member", () -> {
            c.writeMember(1);
            checks.throwsExactly(Checks.INDEX, "writeMember", () -> c.writeMember(2));
            checks.same("line", "8%2+0^0~0$0", View.line(c, 11));
            checks.throwsExactly(Checks.INDEX, "outputAt", () -> c.outputAt(11));
        });
    }

    private static void linesReplaced() {
        CricketCooperative c = View.withShares(1, 50);
        checks.test("47: writeMember replaces a shorter line", () -> {
            writes(c, 0, "1%2+0^0~0$0");
            writes(c, 1, "50%2+0^0~0$0");
        });
        checks.test("47: writeMember replaces a longer line", () -> {
            writes(c, 1, "50%2+0^0~0$0");
            writes(c, 0, "1%2+0^0~0$0");
        });
        checks.test("47: writeMember, the line is not written anew when the member changes", () -> {
            c.writeMember(0);
            c.wind(0, 30);
            checks.same("line", "1%2+0^0~0$0", View.line(c, 11));
            writes(c, 0, "1%2+0^0~30$0");
        });
    }

    private static void characters() {
        CricketCooperative c = View.withShares(12);
        c.writeMember(0);
        checks.test("48: outputAt, the index 0",
                () -> checks.same("outputAt", '1', c.outputAt(0)));
        checks.test("48: outputAt, the last index",
                () -> checks.same("outputAt", '0', c.outputAt(11)));
    }

    private static void noCharacters() {
        CricketCooperative c = View.withShares(12);
        CricketCooperative fresh = View.withShares(12);
        c.writeMember(0);
        checks.test("48: outputAt, the index -1 is negative", () -> checks.refuses(Checks.INDEX, c,
                "outputAt", () -> c.outputAt(-1)));
        checks.test("48: outputAt, the length is not less than the length", () -> checks.refuses(
                Checks.INDEX, c, "outputAt", () -> c.outputAt(12)));
        checks.test("48: outputAt, indices far away", () -> checks.refusesEach(Checks.INDEX, c, "index",
                Checks.NOBODY, index -> c.outputAt(index)));
        checks.test("48: outputAt, the line is initially empty", () -> {
            checks.refuses(Checks.INDEX, fresh, "0", () -> fresh.outputAt(0));
            checks.refuses(Checks.INDEX, fresh, "-1", () -> fresh.outputAt(-1));
        });
    }
}
