/** What the queries tell of a cooperative, and short ways to bring one into a state. */
final class View {
    private View() {
    }

    /** Period and phase have no query of their own; the due beats tell them. */
    static String of(CricketCooperative c) {
        StringBuilder text = new StringBuilder();
        text.append("beat ").append(c.beat()).append(" surplus ").append(c.surplus());
        text.append(" house ").append(c.houseTone()).append(" quarters ").append(c.quarters());
        text.append(" coins ").append(c.coinTotal()).append(" earned ").append(c.coinsByAccounts());
        text.append(" chirps ").append(c.chirps()).append(" spoilt ").append(spoiltBeats(c));
        for (int member = 0; member < c.memberCount(); member++) {
            text.append(" | ").append(c.shares(member)).append(' ').append(c.dueBeats(member));
            text.append(' ').append(c.tone(member)).append(' ').append(c.spring(member));
            text.append(' ').append(c.purse(member)).append(' ').append(c.dissents(member));
        }
        return text.toString();
    }

    static String spoiltBeats(CricketCooperative c) {
        StringBuilder text = new StringBuilder();
        for (int position = 0; position < 20; position++) {
            try {
                text.append(c.spoiltBeat(position)).append(' ');
            } catch (IndexOutOfBoundsException e) {
                return text.toString();
            }
        }
        return text + "and more than can be kept";
    }

    static String line(CricketCooperative c, int length) {
        StringBuilder text = new StringBuilder();
        for (int index = 0; index < length; index++) {
            text.append(c.outputAt(index));
        }
        return text.toString();
    }

    static void type(CricketCooperative c, String text) {
        for (int index = 0; index < text.length(); index++) {
            c.append(text.charAt(index));
        }
    }

    /** A member who chirps at every even beat, with so many coins in the purse. */
    static CricketCooperative richMember(int shares, int coins) {
        CricketCooperative c = new CricketCooperative();
        c.addMember(shares, 2, 0, 0);
        for (int earned = 0; earned < coins; earned += Math.min(30, coins - earned)) {
            c.wind(0, Math.min(30, coins - earned));
            c.passBeats(60);
        }
        c.endQuarter();
        return c;
    }

    /** Members with these shares, all of tone 0, who never chirp together with a clash. */
    static CricketCooperative withShares(int... shares) {
        CricketCooperative c = new CricketCooperative();
        for (int number : shares) {
            c.addMember(number, 2, 0, 0);
        }
        return c;
    }

    static CricketCooperative withTones(int... tones) {
        CricketCooperative c = new CricketCooperative();
        for (int tone : tones) {
            c.addMember(10, 2, 0, tone);
        }
        return c;
    }
}
