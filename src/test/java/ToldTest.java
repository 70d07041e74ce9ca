/** Promises 6 to 12, and how a vote is counted. */
public final class ToldTest {
    static final String SAMPLE = "deed kind here bad 2 there good 5;deed hard here good 4 there bad 6;deed rest here good 0 there good 1;"
            + "person ann of 0 first kind on hard does hard;person abe of 0 first hard;person bea of 1 first kind on hard does rest;"
            + "person bob of 1 first rest on kind does kind;group old of 0 many 5;group young of 0 many 7 pity 3;group mill of 1 many 4 pity 2;"
            + "vote there * pity + here * (3 - pity);winter 30 of 3;draw 7;";

    private static void rows() {
        FarBank bank = Checks.told(SAMPLE);
        int[][] deeds = {{-2, 5}, {4, -6}, {0, 1}};
        for (int d = 0; d < 3; d++) {
            Checks.due("deed here", bank.deed(d, 0), deeds[d][0]);
            Checks.due("deed there", bank.deed(d, 1), deeds[d][1]);
        }
        Checks.due("deed(3, 0)", bank.deed(3, 0), FarBank.GAP);
        Checks.due("deed(-1, 0)", bank.deed(-1, 0), FarBank.GAP);
        Checks.due("deed(0, 2)", bank.deed(0, 2), FarBank.GAP);
        Checks.due("deed(0, -1)", bank.deed(0, -1), FarBank.GAP);
        int[][] persons = {{0, 0}, {0, 1}, {1, 0}, {1, 2}};
        for (int p = 0; p < 4; p++) {
            Checks.due("person's TOWN", bank.person(p, 0), persons[p][0]);
            Checks.due("person's first", bank.person(p, 1), persons[p][1]);
            Checks.due("person's terms", bank.person(p, 2), 0);
            Checks.due("person is SPEAKER", bank.person(p, 3), 0);
        }
        Checks.due("person(4, 0)", bank.person(4, 0), -1);
        Checks.due("person(-1, 0)", bank.person(-1, 0), -1);
        Checks.due("person(0, 4)", bank.person(0, 4), -1);
        Checks.due("person(0, -1)", bank.person(0, -1), -1);
        int[][] does = {{0, 0, 1, 0}, {1, 1, 1, 1}, {0, 0, 2, 0}, {2, 0, 2, 2}};
        for (int p = 0; p < 4; p++) {
            for (int d = -1; d < 3; d++) {
                Checks.due("does(" + p + ", " + d + ")", bank.does(p, d), does[p][d + 1]);
            }
        }
        Checks.due("does(4, 0)", bank.does(4, 0), -1);
        Checks.due("does(-1, 0)", bank.does(-1, 0), -1);
        Checks.due("does(0, 3)", bank.does(0, 3), -1);
        Checks.due("does(0, -2)", bank.does(0, -2), -1);
        int[][] groups = {{0, 5, 0, 1}, {0, 7, 3, 0}, {1, 4, 2, 2}};
        for (int g = 0; g < 3; g++) {
            for (int what = 0; what < 4; what++) {
                Checks.due("group(" + g + ", " + what + ")", bank.group(g, what), groups[g][what]);
            }
        }
        Checks.due("group(3, 0)", bank.group(3, 0), -1);
        Checks.due("group(-1, 0)", bank.group(-1, 0), -1);
        Checks.due("group(0, 4)", bank.group(0, 4), -1);
        Checks.due("group(0, -1)", bank.group(0, -1), -1);
    }

    private static void towns() {
        FarBank bank = Checks.told(SAMPLE);
        int[] none = {0, -1, -1, -1, -1};
        for (int what = 0; what < 5; what++) {
            Checks.due("town(0, " + what + ") at first", bank.town(0, what), none[what]);
            Checks.due("town(1, " + what + ") at first", bank.town(1, what), none[what]);
        }
        bank.force(1);
        bank.force(2);
        bank.season();
        bank.drum(0, 0);
        int[] zero = {9, 1, 0, 1, -1};
        int[] one = {-8, 2, 1, 0, 0};
        for (int what = 0; what < 5; what++) {
            Checks.due("town(0, " + what + ")", bank.town(0, what), zero[what]);
            Checks.due("town(1, " + what + ")", bank.town(1, what), one[what]);
        }
        Checks.due("terms", bank.person(1, 2), 1);
        Checks.due("terms", bank.person(0, 2), 0);
        Checks.due("is SPEAKER", bank.person(2, 3), 1);
        Checks.due("town(2, 0)", bank.town(2, 0), FarBank.GAP);
        Checks.due("town(-1, 0)", bank.town(-1, 0), FarBank.GAP);
        Checks.due("town(0, 5)", bank.town(0, 5), FarBank.GAP);
        Checks.due("town(0, -1)", bank.town(0, -1), FarBank.GAP);
    }

    private static void ballots() {
        FarBank bank = Checks.told(SAMPLE);
        int[] votes = {7, 5, 4, 0};
        for (int p = 0; p < 4; p++) {
            Checks.due("votes(" + p + ")", bank.votes(p), votes[p]);
        }
        Checks.due("votes(4)", bank.votes(4), -1);
        Checks.due("votes(-1)", bank.votes(-1), -1);
        Checks.due("elected(0)", bank.elected(0), 0);
        Checks.due("elected(1)", bank.elected(1), 2);
        Checks.due("elected(2)", bank.elected(2), -1);
        Checks.due("elected(-1)", bank.elected(-1), -1);
        // Without GROUPS the first, without PERSONS none; here less there if no vote is told.
        String two = "deed a here good 3 there good 2;deed b here good 1 there bad 1;";
        bank = Checks.told(two + "person p of 1 first a;person q of 1 first b;group g of 0 many 3;");
        Checks.due("elected(0) without PERSONS", bank.elected(0), -1);
        Checks.due("group(0, 3) without PERSONS", bank.group(0, 3), -1);
        Checks.due("elected(1) without GROUPS", bank.elected(1), 0);
        bank = Checks.told(two + "person p of 1 first a;person q of 1 first b;person r of 1 first b;group g of 1 many 3;");
        Checks.due("here less there, the first of like ones", bank.group(0, 3), 1);
        bank = Checks.told(two + "person p of 1 first a;person q of 1 first b;group g of 1 many 3;group h of 1 many 2 pity 1;group i of 1 many 1 pity 1;vote pity * here;");
        Checks.due("group(0, 3) of like ones the first", bank.group(0, 3), 0);
        Checks.due("votes(0)", bank.votes(0), 6);
        bank = Checks.told(two + "person p of 1 first a;person q of 1 first b;group g of 1 many 3;group h of 1 many 3 pity 1;vote (pity = 0) * (0 - here);");
        Checks.due("votes(1)", bank.votes(1), 3);
        Checks.due("elected(1), of like ones the first", bank.elected(1), 0);
    }

    /** Two PERSONS, of whom the second is voted for just if the vote of here 3 is more than that of here 1. */
    private static void more(String vote, boolean second) {
        FarBank bank = Checks.told("deed a here good 1 there good 7;deed b here good 3 there bad 7;person p of 0 first a;person q of 0 first b;"
                + "group g of 0 many 1 pity 2;vote " + vote + ";");
        Checks.due("vote " + vote, bank.group(0, 3), second ? 1 : 0);
    }

    private static void formulas() {
        more("here", true);
        more("0 - here", false);
        more("there", false);
        more("7 - 2 - here", false);
        more("7 - (2 - here)", true);
        more("here * 2 + 1 = 7", true);
        more("1 + here * 2 = 7", true);
        more("here = 3 or 1", false);
        more("here = 3 and 1", true);
        more("1 = 1 or here = 3 and 0", false);
        more("not here = 1", true);
        more("not not here < 3", false);
        more("not here < 3", true);
        more("here > 2", true);
        more("here > 3", false);
        more("here < 1", false);
        more("3 < here", false);
        more("here / 0", false);
        more("here % 0 = 0 and here = 3", true);
        more("here / 3", true);
        more("here % 3", false);
        // Cut towards 0, the rest with the sign of what was parted: there is 7, then -7.
        more("there / 2 = 0 - 3", true);
        more("there / 2 = 0 - 4", false);
        more("there % 4 = 0 - 3", true);
        // Ints that wrap: 9999 ^ 3 is -1027349969 then, 3 times that 1212917389; 21 * 9999 ^ 2 is more than 63 * 9999 ^ 2.
        more("here * 9999 * 9999 * 9999 > 0", true);
        more("here * 9999 * 9999 * 21", false);
        more("(here - 1) * 9999 * 9999 * 11", false);
        more("here = pity + 1", true);
        more("here * season", false);
        more("5 and here - 1", true);
        more("0 or here - 1", true);
        more("(0 - 5 and here) * here", true);
        more("0 - (0 - 5 and here - 1)", false);
        more("(0 - 5 or here) * (0 - here)", false);
    }

    private static void seasonsAndTerms() {
        FarBank bank = Checks.told("deed a here good 1 there good 1;deed b here good 2 there good 1;person p of 0 first a;person q of 0 first b;"
                + "group g of 0 many 1;vote terms * 10 - here * season;");
        Checks.due("at first", bank.elected(0), 0);
        bank.force(1);
        bank.season();
        Checks.due("10 - 2 against -1", bank.elected(0), 1);
        Checks.due("terms", bank.person(1, 2), 1);
        bank.force(0);
        bank.season();
        Checks.due("10 - 4 against 10 - 2", bank.elected(0), 0);
    }

    public static void main(String[] args) {
        rows();
        towns();
        ballots();
        formulas();
        seasonsAndTerms();
        Checks.due("NONE", FarBank.NONE, -1);
        Checks.due("GAP", FarBank.GAP, -1000000000);
        Checks.close("ToldTest");
    }
}
