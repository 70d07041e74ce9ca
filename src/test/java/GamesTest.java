/** Promises 24 to 35, 38 and 39: GAMES and TREATIES. */
public final class GamesTest {
    private static final int GAP = FarBank.GAP;

    /** PAY of n = 3 of each of TOWN 0 (rows) against each of TOWN 1, first to TOWN 0, then to TOWN 1. */
    private static final int[][][] PAYS = {{{9, 9}, {5, 11}}, {{19, -20}, {15, -18}}};

    private static void pays() {
        FarBank bank = Checks.told(ToldTest.SAMPLE);
        bank.force(1);
        bank.force(3);
        bank.season();
        bank.drum(1, 0);
        for (int p = 0; p < 2; p++) {
            for (int q = 2; q < 4; q++) {
                for (int what = 0; what < 2; what++) {
                    Checks.due("pay(" + p + ", " + q + ", 3, " + what + ")", bank.pay(p, q, 3, what), PAYS[p][q - 2][what]);
                    Checks.due("pay(" + q + ", " + p + ", 3, " + what + ")", bank.pay(q, p, 3, what), PAYS[p][q - 2][1 - what]);
                }
                Checks.due("pay of no seasons", bank.pay(p, q, 0, 0), 0);
            }
        }
        Checks.due("pay(0, 2, 60, 0)", bank.pay(0, 2, 60, 0), 180);
        Checks.due("pay(1, 2, 60, 1)", bank.pay(1, 2, 60, 1), -8 - 59 * 6);
        int[][] gaps = {{0, 1, 3, 0}, {2, 3, 3, 0}, {0, 0, 3, 0}, {0, 4, 3, 0}, {4, 0, 3, 0}, {-1, 2, 3, 0}, {0, -1, 3, 0}, {0, 2, 61, 0},
            {0, 2, -1, 0}, {0, 2, 3, 2}, {0, 2, 3, -1}};
        for (int[] g : gaps) {
            Checks.due("pay(" + g[0] + ", " + g[1] + ", " + g[2] + ", " + g[3] + ")", bank.pay(g[0], g[1], g[2], g[3]), GAP);
        }
    }

    private static void againstAll() {
        FarBank bank = Checks.told(ToldTest.SAMPLE);
        int[] best = {3, 3, 1, 1};
        int[] total = {14, 34, -11, -7};
        int[] feared = {0, 0, 2, 2};
        for (int p = 0; p < 4; p++) {
            Checks.due("best(" + p + ", 3)", bank.best(p, 3), best[p]);
            Checks.due("total(" + p + ", 3)", bank.total(p, 3), total[p]);
            Checks.due("feared(" + p + ", 3)", bank.feared(p, 3), feared[p]);
        }
        Checks.due("champion(0, 3)", bank.champion(0, 3), 1);
        Checks.due("champion(1, 3)", bank.champion(1, 3), 3);
        // In one season bob (-2 + 1 .. 0 + 5) is best, too; bob against abe: 0 - 6.
        Checks.due("best(0, 1)", bank.best(0, 1), 3);
        Checks.due("feared(3, 1)", bank.feared(3, 1), 2);
        Checks.due("feared(0, 1): -2 + 1 against bob", bank.feared(0, 1), 8);
        for (int n : new int[] {0, 61, -1, Integer.MAX_VALUE, Integer.MIN_VALUE}) {
            Checks.due("best(0, " + n + ")", bank.best(0, n), -1);
            Checks.due("total(0, " + n + ")", bank.total(0, n), GAP);
            Checks.due("champion(0, " + n + ")", bank.champion(0, n), -1);
            Checks.due("feared(0, " + n + ")", bank.feared(0, n), -1);
            Checks.due("rests(" + n + ")", bank.rests(n), -1);
            Checks.due("concord(" + n + ")", bank.concord(n), GAP);
        }
        for (int p : new int[] {4, -1, Integer.MAX_VALUE, Integer.MIN_VALUE}) {
            Checks.due("best(" + p + ", 3)", bank.best(p, 3), -1);
            Checks.due("total(" + p + ", 3)", bank.total(p, 3), GAP);
            Checks.due("champion(" + p + ", 3)", bank.champion(p, 3), -1);
            Checks.due("feared(" + p + ", 3)", bank.feared(p, 3), -1);
            Checks.due("twins(" + p + ")", bank.twins(p), -1);
        }
        bank = Checks.told("deed a here good 1 there bad 1;deed b here good 2 there bad 2;person p of 0 first b;person q of 0 first a;person r of 0 first b;");
        Checks.due("best with nobody over there", bank.best(0, 1), -1);
        Checks.due("total with nobody over there", bank.total(1, 60), 0);
        Checks.due("champion with nobody over there", bank.champion(0, 5), 0);
        Checks.due("champion with nobody here", bank.champion(1, 5), -1);
        Checks.due("feared with nobody over there", bank.feared(0, 5), 0);
        Checks.due("rests with nobody over there", bank.rests(5), 0);
        Checks.due("concord with nobody over there", bank.concord(5), GAP);
        Checks.due("feared by nobody", bank.feared(2, 5), 0);
        Checks.due("twins(0)", bank.twins(0), 5);
        Checks.due("twins(1)", bank.twins(1), 2);
        bank = Checks.told("deed a here good 1 there bad 1;deed b here good 2 there bad 2;person p of 0 first a on b does b;"
                + "person q of 1 first a on b does b on a does a;person r of 0 first a;person s of 1 first b;person t of 1 first b;");
        Checks.due("twins in both TOWNS, told in other words", bank.twins(0), 3);
        Checks.due("twins(2)", bank.twins(2), 4);
        Checks.due("best of like ones the first", bank.best(0, 4), 3);
        // r against q: 1 - 1 in each season; against s: 1 - 2.
        Checks.due("a PAY of 0 is not feared", bank.feared(2, 1), 8 + 16);
    }

    private static void pairs() {
        FarBank bank = Checks.told(ToldTest.SAMPLE);
        Checks.due("rests(3)", bank.rests(3), 1);
        Checks.due("lies(0)", bank.lies(0), 1);
        Checks.due("lies(1)", bank.lies(1), 3);
        Checks.due("lies(2)", bank.lies(2), -2);
        Checks.due("concord(3)", bank.concord(3), 18);
        Checks.due("lies(0)", bank.lies(0), 0);
        Checks.due("lies(1)", bank.lies(1), 2);
        Checks.due("numbers", bank.about(11), 2);
        Checks.due("rests(0)", bank.rests(0), -1);
        Checks.due("no numbers", bank.about(11), 0);
        bank.concord(3);
        Checks.due("concord(0)", bank.concord(0), GAP);
        Checks.due("lies(0)", bank.lies(0), -2);
        // Told first is one of TOWN 1: what lies there is of TOWN 0 first all the same.
        bank = Checks.told("deed a here good 1 there good 1;person p of 1 first a;person q of 1 first a;person r of 0 first a;person s of 0 first a;");
        Checks.due("all are at rest", bank.rests(7), 4);
        Checks.due("lies(0)", bank.lies(0), 2);
        Checks.due("lies(1)", bank.lies(1), 0);
        Checks.due("concord(60)", bank.concord(60), 240);
        Checks.due("lies(0)", bank.lies(0), 2);
        Checks.due("lies(1)", bank.lies(1), 0);
        // PAY of n = 3: p, r -6, -18; p, s -12, -16; q, r -15, -7; q, s -9, -9: somebody would always change.
        bank = Checks.told("deed a here bad 3 there good 0;deed b here bad 2 there bad 3;person p of 0 first b;person q of 0 first a;"
                + "person r of 1 first a on a does b;person s of 1 first a on b does b;");
        bank.concord(3);
        Checks.due("rests(3) with no pair at rest", bank.rests(3), 0);
        Checks.due("nothing lies there", bank.about(11), 0);
        Checks.due("lies(0)", bank.lies(0), -2);
    }

    private static void rounds() {
        FarBank bank = Checks.told(ToldTest.SAMPLE);
        int[][] want = {{0, 2, 0, 1}, {0, 3, 1, 1}, {1, 2, 1, 1}, {1, 3, 0, 1}, {3, 0, 1, 1}};
        for (int[] w : want) {
            Checks.due("round(" + w[0] + ", " + w[1] + ", 0)", bank.round(w[0], w[1], 0), w[2]);
            Checks.due("round(" + w[0] + ", " + w[1] + ", 1)", bank.round(w[0], w[1], 1), w[3]);
        }
        int[][] mean = {{0, 3, 3}, {2, 1, -6}, {1, 2, 5}, {1, 3, 5}, {3, 1, -6}};
        for (int[] m : mean) {
            Checks.due("mean(" + m[0] + ", " + m[1] + ", 0)", bank.mean(m[0], m[1], 0), m[2]);
            Checks.due("mean(" + m[0] + ", " + m[1] + ", 1)", bank.mean(m[0], m[1], 1), 1);
        }
        int[][] wrong = {{0, 1, 0}, {0, 0, 0}, {0, 4, 0}, {4, 0, 0}, {-1, 2, 0}, {0, -1, 1}, {0, 2, 2}, {0, 2, -1}};
        for (int[] w : wrong) {
            Checks.due("round(" + w[0] + ", " + w[1] + ", " + w[2] + ")", bank.round(w[0], w[1], w[2]), -1);
            Checks.due("mean(" + w[0] + ", " + w[1] + ", " + w[2] + ")", bank.mean(w[0], w[1], w[2]), GAP);
        }
        // p goes a, b, c, b, c, ..; q does a always.
        bank = Checks.told("deed a here good 1 there good 0;deed b here bad 4 there good 0;deed c here good 1 there good 0;"
                + "person p of 0 first a on a does b on b does c on c does b;person q of 1 first a on a does b on b does c on c does b;");
        Checks.due("from season 1 on", bank.round(0, 1, 0), 1);
        Checks.due("two seasons", bank.round(0, 1, 1), 2);
        Checks.due("-3 of 2", bank.mean(0, 1, 0), -3);
        Checks.due("-3 of 2", bank.mean(0, 1, 1), 2);
        bank = Checks.told("deed a here good 1 there good 1;deed b here bad 1 there bad 1;person p of 0 first a on a does b on b does a;person q of 1 first a on a does b on b does a;");
        Checks.due("0 of 1", bank.mean(0, 1, 0), 0);
        Checks.due("0 of 1", bank.mean(0, 1, 1), 1);
        Checks.due("two seasons", bank.round(1, 0, 1), 2);
        longestRound();
    }

    private static void longestRound() {
        // p does on what q did the next one, q the same one again: five DEEDS, each done twice, by turns.
        String text = "";
        for (int d = 0; d < 5; d++) {
            text += "deed " + (char) ('a' + d) + " here good " + (d == 0 ? 1 : 0) + " there good 0;";
        }
        String p = "person p of 0 first a";
        String q = "person q of 1 first a";
        for (int d = 0; d < 5; d++) {
            p += " on " + (char) ('a' + d) + " does " + (char) ('a' + (d + 1) % 5);
            q += " on " + (char) ('a' + d) + " does " + (char) ('a' + d);
        }
        FarBank bank = Checks.told(text + p + ";" + q + ";");
        Checks.due("round from", bank.round(0, 1, 0), 0);
        Checks.due("round of ten", bank.round(0, 1, 1), 10);
        Checks.due("mean 1 of 5", bank.mean(0, 1, 0), 1);
        Checks.due("mean 1 of 5", bank.mean(0, 1, 1), 5);
        // The most seasons that a ROUND takes, and the most that go ahead of one.
        bank = Checks.told(text + "person p of 0 first b" + answers(4, 3, 1, 0, 2) + ";person q of 1 first d" + answers(1, 0, 3, 4, 2) + ";");
        Checks.due("round from", bank.round(0, 1, 0), 0);
        Checks.due("round of twelve", bank.round(1, 0, 1), 12);
        bank = Checks.told(text + "person p of 0 first e" + answers(2, 1, 0, 4, 3) + ";person q of 1 first c" + answers(4, 0, 0, 3, 1) + ";");
        Checks.due("round from", bank.round(0, 1, 0), 8);
        Checks.due("round of one", bank.round(0, 1, 1), 1);
    }

    private static String answers(int... deeds) {
        StringBuilder s = new StringBuilder();
        for (int d = 0; d < deeds.length; d++) {
            s.append(" on ").append((char) ('a' + d)).append(" does ").append((char) ('a' + deeds[d]));
        }
        return s.toString();
    }

    private static void treaties() {
        FarBank bank = Checks.told(ToldTest.SAMPLE);
        Checks.due("fair(0)", bank.fair(0), 0);
        Checks.due("fair(1)", bank.fair(1), 0);
        Checks.due("fair(2)", bank.fair(2), 3);
        Checks.due("fair(3)", bank.fair(3), GAP);
        Checks.due("fair(-1)", bank.fair(-1), GAP);
        Checks.due("holds(0, 0, 1): 9 - 2 against 6", bank.holds(0, 0, 1), 0);
        Checks.due("holds(0, 0, 2): 9 - 4 against 9", bank.holds(0, 0, 2), 1);
        Checks.due("holds(1, 1, 0)", bank.holds(1, 1, 0), 1);
        Checks.due("holds(0, 1, 0): 4 is better than -2", bank.holds(0, 1, 0), 0);
        Checks.due("treaties(0)", bank.treaties(0), 1);
        Checks.due("treaties(60)", bank.treaties(60), 5);
        int[][] wrong = {{3, 0, 0}, {0, 3, 0}, {-1, 0, 0}, {0, -1, 0}, {0, 0, 61}, {0, 0, -1}};
        for (int[] w : wrong) {
            Checks.due("holds(" + w[0] + ", " + w[1] + ", " + w[2] + ")", bank.holds(w[0], w[1], w[2]), -1);
        }
        Checks.due("treaties(61)", bank.treaties(61), -1);
        Checks.due("treaties(-1)", bank.treaties(-1), -1);
        bank = new FarBank();
        Checks.due("fair(0) without DEEDS", bank.fair(0), GAP);
        Checks.due("treaties(9) without DEEDS", bank.treaties(9), 0);
        // b now (1 + 2) and then 1 + 0, against 2 a season: what is worth the same holds.
        bank = Checks.told("deed a here good 0 there good 2;deed b here good 1 there bad 0;deed c here bad 9 there good 0;");
        Checks.due("holds(0, 0, 0): 3 against 2", bank.holds(0, 0, 0), 0);
        Checks.due("holds(0, 0, 1): 3 + 1 against 4", bank.holds(0, 0, 1), 1);
        Checks.due("holds(1, 0, 1): a would have to be kept, too", bank.holds(1, 0, 1), 0);
        // One DEED alone: there is no other to be tempted by.
        bank = Checks.told("deed a here bad 5 there bad 5;");
        Checks.due("one DEED alone", bank.holds(0, 0, 60), 1);
        Checks.due("worth -10", bank.fair(2), -10);
        // (b, b) and (c, c) are 4 and 4, (b, c) is 2 and 6: of like ones the first.
        bank = Checks.told("deed a here good 1 there good 1;deed b here good 1 there good 3;deed c here good 3 there good 1;");
        Checks.due("fair(0)", bank.fair(0), 1);
        Checks.due("fair(1)", bank.fair(1), 1);
        Checks.due("fair(2)", bank.fair(2), 4);
        // (a, a) and (b, b) are 2 and 2; so are (a, c) and (c, a), by 3 - 1 and 3 - 1.
        bank = Checks.told("deed z here good 0 there good 0;deed a here good 3 there bad 1;deed b here good 1 there good 1;deed c here good 3 there bad 1;");
        Checks.due("fair(0)", bank.fair(0), 1);
        Checks.due("fair(1)", bank.fair(1), 1);
    }

    public static void main(String[] args) {
        pays();
        againstAll();
        pairs();
        rounds();
        treaties();
        Checks.close("GamesTest");
    }
}
