/** Promises 19 to 23, 36, 37 and 39: what lies ahead. */
public final class AheadTest {
    private static void will() {
        FarBank bank = Checks.told(ToldTest.SAMPLE);
        Checks.due("will(0, 60) with no SPEAKERS, winters of 3", bank.will(0, 60), countWinters(7, 30, 60) * -3);
        bank.force(1);
        bank.force(2);
        int[] zero = {0, 9, 14, 19, 24, 29, 31, 33, 38};
        int[] one = {0, -8, -14, -20, -26, -32, -41, -50, -56};
        for (int n = 0; n <= 8; n++) {
            Checks.due("will(0, " + n + ")", bank.will(0, n), zero[n]);
            Checks.due("will(1, " + n + ")", bank.will(1, n), one[n]);
        }
        Checks.due("nothing is done", bank.about(3), 0);
        Checks.due("will(0, 61)", bank.will(0, 61), FarBank.GAP);
        Checks.due("will(0, -1)", bank.will(0, -1), FarBank.GAP);
        Checks.due("will(2, 1)", bank.will(2, 1), FarBank.GAP);
        Checks.due("will(-1, 1)", bank.will(-1, 1), FarBank.GAP);
        bank.drum(1, 0);
        Checks.due("what is asked for now is done once: 3, then 9", bank.will(0, 2), 12);
        Checks.due("it is asked for still", bank.town(0, 4), 0);
    }

    private static int countWinters(int seed, int rate, int n) {
        int count = 0;
        int s = seed;
        for (int i = 0; i < n; i++) {
            s = (s * 137 + 71) % 1000;
            count += s % 100 < rate ? 1 : 0;
        }
        return count;
    }

    private static void margins() {
        FarBank bank = Checks.told(ToldTest.SAMPLE);
        Checks.due("margin(0, 0)", bank.margin(0, 0), 2);
        Checks.due("margin(0, 1)", bank.margin(0, 1), 1);
        Checks.due("margin(1, 0)", bank.margin(1, 0), 4);
        Checks.due("margin(1, 1)", bank.margin(1, 1), 3);
        Checks.due("margin(0, 2)", bank.margin(0, 2), -1);
        Checks.due("margin(0, -1)", bank.margin(0, -1), -1);
        Checks.due("margin(2, 0)", bank.margin(2, 0), -1);
        Checks.due("margin(-1, 0)", bank.margin(-1, 0), -1);
        String deeds = "deed a here good 1 there good 0;deed b here good 2 there good 0;";
        bank = Checks.told(deeds + "person p of 0 first a;person q of 0 first b;person r of 0 first a;person s of 1 first a;group g of 0 many 9;");
        Checks.due("the second of the ELECTED 1: of like ones the first", bank.margin(0, 1), 0);
        Checks.due("margin(0, 0)", bank.margin(0, 0), 9);
        Checks.due("one PERSON alone", bank.margin(1, 0), -1);
        Checks.due("one PERSON alone", bank.margin(1, 1), -1);
    }

    private static void ruins() {
        FarBank bank = Checks.told(ToldTest.SAMPLE);
        Checks.due("the sixth season has the first winter", bank.ruin(0), 6);
        bank.force(1);
        bank.force(2);
        Checks.due("ruin(0)", bank.ruin(0), -1);
        Checks.due("ruin(1)", bank.ruin(1), 1);
        bank.season();
        Checks.due("below 0 already", bank.ruin(1), 0);
        Checks.due("ruin(2)", bank.ruin(2), -1);
        Checks.due("ruin(-1)", bank.ruin(-1), -1);
        // 50 there once, then 1 less a season: below 0 behind so many seasons.
        bank = Checks.told("deed a here good 0 there good 50;deed b here bad 1 there good 0;person p of 0 first b;person q of 1 first a on b does b;");
        bank.force(0);
        bank.force(1);
        Checks.due("49, 48, .. -1", bank.ruin(0), 51);
        bank = Checks.told("deed a here good 9 there good 0;deed b here bad 1 there good 0;person p of 0 first a on b does b on a does b;person q of 1 first b;winter 0 of 1;");
        bank.force(0);
        bank.season();
        bank.force(1);
        bank.season();
        Checks.due("WEAL", bank.town(0, 0), 18);
        Checks.due("18, 17, .. -1", bank.ruin(0), 19);
        bank = Checks.told("deed a here good 50 there good 0;deed b here bad 1 there good 0;person p of 0 first b;person q of 0 first a;");
        bank.force(1);
        bank.season();
        bank.force(0);
        Checks.due("just behind 51", bank.ruin(0), 51);
        bank.undo();
        bank.season();
        bank.force(0);
        Checks.due("behind 101, which is too far", bank.ruin(0), -1);
        bank = Checks.told("deed a here good 50 there good 0;deed b here good 9 there good 0;deed c here good 10 there good 0;deed z here bad 1 there good 0;"
                + "person p of 0 first z;person q of 0 first a;person r of 0 first b;person s of 0 first c;");
        bank.force(1);
        bank.season();
        bank.force(2);
        bank.season();
        bank.force(0);
        Checks.due("59, 58, .. -1", bank.ruin(0), 60);
        bank.undo();
        bank.undo();
        bank.undo();
        bank.force(3);
        bank.season();
        bank.force(0);
        Checks.due("60, 59, .. 0", bank.ruin(0), -1);
    }

    private static void lie(FarBank bank, String what, int... want) {
        Checks.due(what + " numbers", bank.about(11), want.length);
        for (int i = 0; i < want.length; i++) {
            Checks.due(what + " lies(" + i + ")", bank.lies(i), want[i]);
        }
        Checks.due(what + " lies behind", bank.lies(want.length), -2);
        Checks.due(what + " lies(-1)", bank.lies(-1), -2);
    }

    private static void petitions() {
        FarBank bank = Checks.told(ToldTest.SAMPLE);
        Checks.due("nobody rules it", bank.petition(0, 1), FarBank.GAP);
        bank.force(1);
        bank.force(2);
        Checks.due("petition(0, 1)", bank.petition(0, 1), 9);
        lie(bank, "petition(0, 1)", -1);
        Checks.due("petition(0, 2)", bank.petition(0, 2), 18);
        lie(bank, "petition(0, 2)", -1, 0);
        Checks.due("petition(0, 3)", bank.petition(0, 3), 27);
        lie(bank, "petition(0, 3)", -1, 0, 0);
        Checks.due("petition(1, 2)", bank.petition(1, 2), 6);
        lie(bank, "petition(1, 2)", 0, 0);
        Checks.due("nothing is done", bank.about(3), 0);
        Checks.due("nothing is asked", bank.town(0, 4), -1);
        Checks.due("petition(1, 0)", bank.petition(1, 0), FarBank.GAP);
        lie(bank, "behind GAP");
        bank.petition(1, 1);
        Checks.due("petition(1, 4)", bank.petition(1, 4), FarBank.GAP);
        lie(bank, "behind GAP");
        Checks.due("petition(2, 1)", bank.petition(2, 1), FarBank.GAP);
        Checks.due("petition(-1, 1)", bank.petition(-1, 1), FarBank.GAP);
        String deeds = "deed a here good 0 there good 0;deed b here good 0 there good 2;deed c here good 0 there good 2;";
        bank = Checks.told(deeds + "person p of 0 first a;person q of 1 first a;winter 100 of 5;");
        bank.force(1);
        Checks.due("of like ones the first DEED, with a winter", bank.petition(0, 2), -6);
        lie(bank, "like ones", 1, 1);
        bank.drum(0, 2);
        Checks.due("what is asked already stays", bank.petition(0, 2), -6);
        lie(bank, "asked already", -1, 1);
        bank = Checks.told("deed a here good 0 there bad 3;deed b here good 0 there bad 2;person p of 0 first a;person q of 1 first a;");
        bank.force(1);
        Checks.due("no DEED is better than the last one", bank.petition(0, 3), -6);
        lie(bank, "the last DEED", 1, 1, 1);
        // p goes on with what pleases TOWN 1 as soon as that was done to his own: fewer askings, and the later one first.
        bank = Checks.told(deeds + "person p of 0 first b on b does b;person q of 1 first a on b does b;");
        bank.force(0);
        bank.force(1);
        Checks.due("fewest askings", bank.petition(0, 3), 6);
        lie(bank, "fewest askings", 1, -1, -1);
    }

    private static void sways() {
        FarBank bank = Checks.told(ToldTest.SAMPLE);
        int[][] want = {{0, 0}, {1, 2}, {0, 0}, {1, 4}};
        for (int p = 0; p < 4; p++) {
            Checks.due("sway(" + p + ", 0)", bank.sway(p, 0), want[p][0]);
            Checks.due("sway(" + p + ", 1)", bank.sway(p, 1), want[p][1]);
        }
        Checks.due("sway(0, 2)", bank.sway(0, 2), -1);
        Checks.due("sway(0, -1)", bank.sway(0, -1), -1);
        Checks.due("sway(4, 0)", bank.sway(4, 0), -1);
        Checks.due("sway(-1, 1)", bank.sway(-1, 1), -1);
        String deeds = "deed a here good 1 there good 0;deed b here good 2 there good 0;";
        String persons = "person p of 0 first a;person q of 0 first b;";
        bank = Checks.told(deeds + persons + "group g of 0 many 3;group h of 1 many 50;group i of 0 many 4;group j of 0 many 5;group k of 0 many 6;");
        // q has 18; p needs 9 of them, as he is the first of like ones: 4 and 5 are, as bits, less than 3 and 6.
        Checks.due("sway(0, 0)", bank.sway(0, 0), 2);
        Checks.due("sway(0, 1)", bank.sway(0, 1), 4 + 8);
        bank = Checks.told(deeds + persons + "group g of 0 many 3;group i of 0 many 3;group j of 0 many 6;");
        Checks.due("one of 6 is fewer than two of 3", bank.sway(0, 1), 4);
        bank = Checks.told(deeds + "person q of 0 first b;person p of 0 first a;group g of 0 many 3;group i of 0 many 3;");
        Checks.due("like ones are not enough for a later one", bank.sway(1, 0), 2);
        Checks.due("like ones are not enough for a later one", bank.sway(1, 1), 3);
        bank = Checks.told(deeds + persons + "group h of 1 many 50;");
        Checks.due("no GROUPS: the first is ELECTED", bank.sway(0, 1), 0);
        Checks.due("all are not enough", bank.sway(1, 0), -1);
        Checks.due("all are not enough", bank.sway(1, 1), -1);
    }

    private static void holds() {
        FarBank bank = Checks.told(ToldTest.SAMPLE);
        Checks.due("winters alone", bank.hold(0, 20), 60);
        bank.force(1);
        bank.force(2);
        Checks.due("hold(0, 60): 9 - 3, then more", bank.hold(0, 60), 0);
        Checks.due("hold(1, 0)", bank.hold(1, 0), 0);
        Checks.due("hold(1, 1): 8 + 3", bank.hold(1, 1), 11);
        Checks.due("hold(1, 2): and 6 + 3", bank.hold(1, 2), 20);
        bank.season();
        Checks.due("whatever the WEAL is now", bank.hold(1, 1), 9);
        Checks.due("hold(1, 61)", bank.hold(1, 61), -1);
        Checks.due("hold(1, -1)", bank.hold(1, -1), -1);
        Checks.due("hold(2, 1)", bank.hold(2, 1), -1);
        Checks.due("hold(-1, 1)", bank.hold(-1, 1), -1);
        bank = Checks.told("deed a here bad 9 there good 0;deed b here good 5 there good 0;person p of 0 first a on a does b;person q of 1 first a;");
        bank.force(0);
        bank.force(1);
        Checks.due("below first, above later", bank.hold(0, 9), 10);
    }

    private static void odds() {
        FarBank bank = Checks.told(ToldTest.SAMPLE);
        int[][] want = {{1, 1}, {7, 10}, {49, 100}, {343, 1000}, {2401, 10000}};
        for (int n = 0; n <= 4; n++) {
            Checks.due("odds(" + n + ", 0)", bank.odds(n, 0), want[n][0]);
            Checks.due("odds(" + n + ", 1)", bank.odds(n, 1), want[n][1]);
        }
        Checks.due("odds(5, 0)", bank.odds(5, 0), -1);
        Checks.due("odds(-1, 0)", bank.odds(-1, 0), -1);
        Checks.due("odds(1, 2)", bank.odds(1, 2), -1);
        Checks.due("odds(1, -1)", bank.odds(1, -1), -1);
        bank = Checks.told("winter 100 of 1;");
        Checks.due("0 of 1", bank.odds(3, 0), 0);
        Checks.due("0 of 1", bank.odds(3, 1), 1);
        Checks.due("none ahead", bank.odds(0, 0), 1);
        bank = Checks.told("winter 1 of 1;");
        Checks.due("99 ^ 4", bank.odds(4, 0), 96059601);
        Checks.due("100 ^ 4", bank.odds(4, 1), 100000000);
        bank.season();
        Checks.due("whatever the SEED is", bank.odds(4, 0), 96059601);
    }

    public static void main(String[] args) {
        will();
        margins();
        ruins();
        petitions();
        sways();
        holds();
        odds();
        Checks.close("AheadTest");
    }
}
