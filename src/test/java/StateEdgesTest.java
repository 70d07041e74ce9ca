/** The edges of ==== 2: ints that wrap, like ones, TOWNS without PERSONS or GROUPS, the 40 ACTS that are kept, the 999 SEASONS. */
public final class StateEdgesTest {
    private static final int NONE = FarBank.NONE;
    private static final int LEAST = Integer.MIN_VALUE;
    private static final int LARGEST = Integer.MAX_VALUE;
    private static final String TWO = "deed a here good 1 there good 0;deed b here good 2 there good 0;";

    // ---- votes

    /** Any int by few units; the least one is the first above the largest. */
    private static String num(int v) {
        if (v < 0 && v != LEAST) {
            return "(0-" + num(-v) + ")";
        }
        return sum(v == LEAST ? 2147483648L : v);
    }

    private static String sum(long n) {
        return n <= 9999 ? String.valueOf(n) : "(" + sum(n / 9999) + "*9999+" + n % 9999 + ")";
    }

    /** The second PERSON, who has more here, is voted for just if what is told comes to 1, else the first of like ones. */
    private static void is(String what, boolean so) {
        FarBank bank = Checks.told(TWO + "person p of 0 first a;person q of 0 first b;group g of 0 many 1;vote (" + what + ")*here;");
        Checks.due(what, bank.group(0, 3), so ? 1 : 0);
    }

    private static void comes(int a, String sign, int b, int to) {
        is(num(a) + sign + num(b) + "=" + num(to), true);
        is(num(a) + sign + num(b) + "=" + num(to + 1), false);
    }

    private static void wraps() {
        comes(LARGEST, "+", 1, LEAST);
        comes(LARGEST, "+", 0, LARGEST);
        comes(LARGEST, "+", LARGEST, -2);
        comes(LEAST, "+", LEAST, 0);
        comes(LEAST, "-", 1, LARGEST);
        comes(LEAST, "-", 0, LEAST);
        comes(0, "-", LEAST, LEAST);
        comes(-1, "-", LARGEST, LEAST);
        comes(LARGEST, "*", 2, -2);
        comes(LARGEST, "*", LARGEST, 1);
        comes(LEAST, "*", LEAST, 0);
        comes(LEAST, "*", -1, LEAST);
        comes(46341, "*", 46341, -2147479015);
        comes(46340, "*", 46340, 2147395600);
        comes(65536, "*", 65536, 0);
    }

    private static void cutAndRest() {
        comes(LEAST, "/", -1, LEAST);
        comes(LEAST, "%", -1, 0);
        comes(LEAST, "/", 1, LEAST);
        comes(LEAST, "/", LEAST, 1);
        comes(LARGEST, "/", LEAST, 0);
        comes(LARGEST, "%", LEAST, LARGEST);
        comes(LEAST, "%", LARGEST, -1);
        for (int a : new int[] {LEAST, -7, -1, 0, 1, 7, LARGEST}) {
            comes(a, "/", 0, 0);
            comes(a, "%", 0, 0);
        }
        comes(7, "/", 2, 3);
        comes(-7, "/", 2, -3);
        comes(7, "/", -2, -3);
        comes(-7, "/", -2, 3);
        comes(7, "%", 2, 1);
        comes(-7, "%", 2, -1);
        comes(7, "%", -2, 1);
        comes(-7, "%", -2, -1);
        comes(1, "/", 2, 0);
        comes(-1, "/", 2, 0);
    }

    private static void relations() {
        int[] row = {LEAST, LEAST + 1, -2, -1, 0, 1, 2, LARGEST - 1, LARGEST};
        for (int i = 0; i < row.length; i++) {
            for (int j = 0; j < row.length; j++) {
                is(num(row[i]) + "<" + num(row[j]), i < j);
                is(num(row[i]) + ">" + num(row[j]), i > j);
                is(num(row[i]) + "=" + num(row[j]), i == j);
            }
        }
        int[] some = {LEAST, -1, 0, 1, 2, LARGEST};
        for (int a : some) {
            is("(not " + num(a) + ")=" + (a == 0 ? 1 : 0), true);
            is("(not not " + num(a) + ")=" + (a == 0 ? 0 : 1), true);
            for (int b : some) {
                is("(" + num(a) + " and " + num(b) + ")=" + (a != 0 && b != 0 ? 1 : 0), true);
                is("(" + num(a) + " or " + num(b) + ")=" + (a != 0 || b != 0 ? 1 : 0), true);
            }
        }
    }

    /** Which binds more, and that like signs go from the left. */
    private static void order() {
        is("(1 or 0 and 0)=1", true);
        is("(0 and 0 or 1)=1", true);
        is("(not 0 and 0)=0", true);
        is("(not 1 or 1)=1", true);
        is("(not 2=1)=1", true);
        is("(not 0+1)=0", true);
        is("1+1<3", true);
        is("3<1+1", false);
        is("2+3*4=14", true);
        is("2*3+4=10", true);
        is("9-3-2=4", true);
        is("9-3+2=8", true);
        is("100/5/2=10", true);
        is("100/5*2=40", true);
        is("7*5%4=3", true);
        is("17%10%4=3", true);
        is("9-(3-2)=8", true);
        is("(1<2)+(2>1)+(3=3)=3", true);
    }

    private static FarBank elects(String persons, String groups, String vote) {
        return Checks.told(TWO + persons + groups + vote);
    }

    /** By most, however little that is; of like ones the first. */
    private static void favourites() {
        String three = "person p of 0 first a;person q of 0 first b;person r of 0 first b;";
        String one = "group g of 0 many 1;";
        Checks.due("all the least int", elects(three, one, "vote " + num(LEAST) + ";").group(0, 3), 0);
        Checks.due("all the largest int", elects(three, one, "vote " + num(LARGEST) + ";").group(0, 3), 0);
        Checks.due("the least, then more", elects(three, one, "vote " + num(LARGEST) + "+here*here*here;").group(0, 3), 1);
        Checks.due("the largest, then the least", elects(three, one, "vote " + num(LARGEST - 1) + "+here;").group(0, 3), 0);
        Checks.due("below 0 all", elects(three, one, "vote 0-here;").group(0, 3), 0);
        Checks.due("below 0 all, the second less so", elects(three, one, "vote here-9;").group(0, 3), 1);
        Checks.due("one alone, with the least int", elects("person p of 0 first a;", one, "vote " + num(LEAST) + ";").group(0, 3), 0);
        Checks.due("0 for all", elects(three, one, "vote 0;").group(0, 3), 0);
        FarBank bank = elects("person p of 1 first a;person q of 1 first a;person r of 0 first a;person s of 0 first b;", one, "");
        Checks.due("the second of its own TOWN", bank.group(0, 3), 3);
    }

    private static void likeVotes() {
        String persons = "person p of 0 first a;person q of 0 first b;";
        String split = "vote (pity=0)*(3-here)+pity*here;";
        FarBank bank = elects(persons, "group g of 0 many 5;group h of 0 many 5 pity 1;", split);
        Checks.due("votes(0)", bank.votes(0), 5);
        Checks.due("votes(1)", bank.votes(1), 5);
        Checks.due("of like ones the first", bank.elected(0), 0);
        Checks.due("ahead by 0", bank.margin(0, 0), 0);
        Checks.due("of the second", bank.margin(0, 1), 1);
        Checks.due("ELECTED already", bank.sway(0, 0), 0);
        Checks.due("one more is needed", bank.sway(1, 0), 1);
        bank = elects(persons, "group g of 0 many 5;group h of 0 many 6 pity 1;", split);
        Checks.due("by one more", bank.elected(0), 1);
        Checks.due("ahead by 1", bank.margin(0, 0), 1);
        Checks.due("of the first", bank.margin(0, 1), 0);
        bank = elects(persons, "group g of 0 many 6;group h of 0 many 5 pity 1;", split);
        Checks.due("by one less", bank.elected(0), 0);
        bank = elects(persons, rows("group # of 0 many 99 pity 1;", 6), split);
        Checks.due("the most votes", bank.votes(1), 594);
        Checks.due("the least votes", bank.votes(0), 0);
        Checks.due("the largest margin", bank.margin(0, 0), 594);
        Checks.due("half of them, as he is the first", bank.sway(0, 0), 3);
        Checks.due("the least set", bank.sway(0, 1), 7);
    }

    private static String rows(String sort, int n) {
        StringBuilder s = new StringBuilder();
        for (int i = 0; i < n; i++) {
            s.append(sort.replace('#', (char) ('a' + i)));
        }
        return s.toString();
    }

    /** ELECTIONS by how it is then, with nothing asked before them; the last of each TOWN, then others. */
    private static void elections() {
        String persons = "person a of 0 first a;person b of 1 first a;person c of 1 first b;person d of 0 first b;";
        String groups = "group g of 0 many 1;group h of 1 many 1;";
        FarBank bank = elects(persons, groups, "vote here-2*terms;");
        Checks.due("elect()", bank.elect(), 2);
        Checks.due("SPEAKER of TOWN 0", bank.town(0, 1), 3);
        Checks.due("SPEAKER of TOWN 1", bank.town(1, 1), 2);
        bank.season();
        Checks.due("elect() behind a season", bank.elect(), 2);
        Checks.due("SPEAKER of TOWN 0", bank.town(0, 1), 0);
        Checks.due("SPEAKER of TOWN 1", bank.town(1, 1), 1);
        bank.force(3);
        Checks.due("elect() behind force", bank.elect(), 1);
        Checks.due("SPEAKER of TOWN 0", bank.town(0, 1), 0);
        Checks.due("elect() again", bank.elect(), 0);
        bank = elects(persons, groups, "vote season*(3-2*here);");
        bank.elect();
        Checks.due("like ones at season 0", bank.town(0, 1), 0);
        bank = elects(persons, groups, "vote season*here;");
        bank.season();
        Checks.due("elect() at season 1", bank.elect(), 2);
        Checks.due("SPEAKER of TOWN 0", bank.town(0, 1), 3);
        Checks.due("undo()", bank.undo(), true);
        Checks.due("undo()", bank.undo(), true);
        Checks.due("elect() at season 0 again", bank.elect(), 2);
        Checks.due("SPEAKER of TOWN 0", bank.town(0, 1), 0);
        Checks.due("SPEAKER of TOWN 1", bank.town(1, 1), 1);
    }

    /** Terms of all eight, one by one, with all else that is counted beside them. */
    private static void terms() {
        FarBank bank = Checks.told(RefusedTest.FULL);
        int[] want = new int[8];
        for (int round = 0; round < 8; round++) {
            for (int p = round; p < 8; p++) {
                bank.force(p);
                bank.season();
                want[p]++;
                if (bank.town(1 - bank.person(p, 0), 1) != NONE) {
                    want[bank.town(1 - bank.person(p, 0), 1)]++;
                }
            }
        }
        for (int p = 0; p < 8; p++) {
            Checks.due("terms of " + p, bank.person(p, 2), want[p]);
        }
        Checks.due("season", bank.about(3), 36);
        int seed = 7;
        for (int i = 0; i < 36; i++) {
            seed = (seed * 137 + 71) % 1000;
        }
        Checks.due("SEED", bank.about(4), seed);
    }

    /** A new RIVER begins anew, wherever the old one was: behind more ACTS than are kept, behind an image, behind UNDO. */
    private static void anew() {
        for (int way = 0; way < 4; way++) {
            FarBank bank = ruled();
            for (int i = 0; i < (way == 0 ? 45 : 5); i++) {
                bank.season();
            }
            bank.drum(0, 1);
            bank.drum(1, 1);
            bank.image(0);
            if (way == 1) {
                bank.back(0);
            }
            for (int i = 0; i < 60 && way == 2; i++) {
                bank.undo();
            }
            Checks.put(bank, ToldTest.SAMPLE);
            Checks.due("river", bank.river(), 4);
            for (int town = 0; town < 2; town++) {
                Checks.due("WEAL", bank.town(town, 0), 0);
                for (int what = 1; what <= 4; what++) {
                    Checks.due("town(" + town + ", " + what + ")", bank.town(town, what), -1);
                }
            }
            for (int p = 0; p < 4; p++) {
                Checks.due("terms", bank.person(p, 2), 0);
                Checks.due("is SPEAKER", bank.person(p, 3), 0);
            }
            int[] want = {4, 3, 3, 0, 7, 0, 0, 0, 0, 0, 6, 0};
            for (int what = 0; what < want.length; what++) {
                Checks.due("about(" + what + ")", bank.about(what), want[what]);
            }
            Checks.due("undo()", bank.undo(), false);
            Checks.due("redo()", bank.redo(), false);
            for (int box = 0; box < 3; box++) {
                Checks.due("back(" + box + ")", bank.back(box), -1);
            }
            bank.season();
            Checks.due("the SEED goes on from draw", bank.about(4), 30);
            Checks.due("undo()", bank.undo(), true);
            Checks.due("WEAL", bank.town(0, 0), 0);
            Checks.due("season", bank.about(3), 0);
        }
    }

    // ---- TOWNS without PERSONS or GROUPS

    private static void emptyTowns() {
        for (int town = 0; town < 2; town++) {
            int other = 1 - town;
            FarBank bank = Checks.told(TWO + "person p of " + other + " first a;person q of " + other + " first b;group g of " + town + " many 9;");
            Checks.due("nobody to be ELECTED", bank.elected(town), -1);
            Checks.due("votes for none", bank.group(0, 3), -1);
            Checks.due("without GROUPS the first", bank.elected(other), 0);
            Checks.due("votes(0)", bank.votes(0), 0);
            Checks.due("votes(1)", bank.votes(1), 0);
            Checks.due("margin without PERSONS", bank.margin(town, 0), -1);
            Checks.due("margin without GROUPS", bank.margin(other, 0), 0);
            Checks.due("margin without GROUPS", bank.margin(other, 1), 1);
            Checks.due("sway without GROUPS, of the first", bank.sway(0, 0), 0);
            Checks.due("sway without GROUPS, of the first", bank.sway(0, 1), 0);
            Checks.due("sway without GROUPS", bank.sway(1, 0), -1);
            Checks.due("sway without GROUPS", bank.sway(1, 1), -1);
            Checks.due("elect()", bank.elect(), 1);
            Checks.due("no SPEAKER", bank.town(town, 1), -1);
            Checks.due("the first as SPEAKER", bank.town(other, 1), 0);
            Checks.due("elect() again", bank.elect(), 0);
            Checks.due("nobody rules the other TOWN", bank.drum(other, 0), -1);
            Checks.due("this one is ruled", bank.drum(town, 1), 0);
            Checks.due("season()", bank.season(), 0);
            Checks.due("no DEED is done there", bank.town(other, 2), -1);
            Checks.due("one is done here", bank.town(town, 2), 1);
            Checks.due("WEAL of it", bank.town(other, 0), 2);
            Checks.due("WEAL there", bank.town(town, 0), 0);
            Checks.due("champion", bank.champion(town, 1), -1);
            Checks.due("best", bank.best(0, 1), -1);
            Checks.due("rests", bank.rests(1), 0);
            Checks.due("concord", bank.concord(1), FarBank.GAP);
        }
        FarBank bank = Checks.told(TWO + "person p of 0 first a;person q of 1 first b;");
        Checks.due("one PERSON: no margin", bank.margin(0, 0), -1);
        Checks.due("one PERSON: no margin", bank.margin(1, 1), -1);
        Checks.due("one PERSON is ELECTED", bank.elected(1), 1);
        bank = new FarBank();
        Checks.due("elect() where nobody is", bank.elect(), 0);
        Checks.due("is an ACT", bank.about(5), 1);
        Checks.due("season() where nobody is", bank.season(), 0);
        Checks.due("is an ACT", bank.about(5), 2);
    }

    // ---- ACTS

    private static FarBank ruled() {
        FarBank bank = Checks.told(ToldTest.SAMPLE);
        bank.force(1);
        bank.force(2);
        return bank;
    }

    private static void kept() {
        for (int n = 38; n <= 43; n++) {
            FarBank bank = ruled();
            for (int i = 2; i < n; i++) {
                bank.season();
            }
            Checks.due("kept of " + n, bank.about(5), Math.min(n, 40));
            int back = 0;
            while (bank.undo()) {
                back++;
            }
            Checks.due("undone of " + n, back, Math.min(n, 40));
            Checks.due("the season behind that", bank.about(3), Math.max(0, n - 42));
            Checks.due("the first SPEAKER is there still", bank.town(0, 1), n >= 41 ? 1 : -1);
            Checks.due("the second SPEAKER is there still", bank.town(1, 1), n >= 42 ? 2 : -1);
            Checks.due("can be redone", bank.about(6), Math.min(n, 40));
            Checks.due("can be undone", bank.about(5), 0);
            int on = 0;
            while (bank.redo()) {
                on++;
            }
            Checks.due("redone of " + n, on, Math.min(n, 40));
            Checks.due("the season behind all", bank.about(3), n - 2);
        }
    }

    /** Another ACT: what was taken back is gone, the oldest are not, as long as there is room. */
    private static void another() {
        FarBank bank = new FarBank();
        for (int i = 0; i < 40; i++) {
            bank.season();
        }
        bank.undo();
        Checks.due("elect()", bank.elect(), 0);
        Checks.due("40 again", bank.about(5), 40);
        Checks.due("none to redo", bank.about(6), 0);
        Checks.due("redo()", bank.redo(), false);
        for (int i = 0; i < 40; i++) {
            Checks.due("undo()", bank.undo(), true);
        }
        Checks.due("the oldest was kept", bank.about(3), 0);
        Checks.due("undo()", bank.undo(), false);
        Checks.due("redo()", bank.redo(), true);
        Checks.due("season", bank.about(3), 1);
        Checks.due("39 more", bank.about(6), 39);
        Checks.due("season()", bank.season(), 0);
        Checks.due("these are gone", bank.about(6), 0);
        Checks.due("two to undo", bank.about(5), 2);
        Checks.due("season", bank.about(3), 2);
    }

    /** Of each ACT: what is taken back by UNDO and done again by REDO. */
    private static void eachAct() {
        FarBank bank = Checks.told(ToldTest.SAMPLE);
        bank.elect();
        bank.undo();
        Checks.due("elect undone", bank.town(0, 1), -1);
        Checks.due("elect undone", bank.town(1, 1), -1);
        bank.redo();
        Checks.due("elect redone", bank.town(0, 1), 0);
        Checks.due("elect redone", bank.town(1, 1), 2);
        bank.drum(1, 2);
        bank.drum(1, 1);
        bank.undo();
        Checks.due("the DEED asked for before", bank.town(0, 4), 2);
        bank.redo();
        Checks.due("drum redone", bank.town(0, 4), 1);
        bank.force(1);
        Checks.due("who follows is not asked", bank.town(0, 4), -1);
        bank.undo();
        Checks.due("force undone", bank.town(0, 1), 0);
        Checks.due("asked again", bank.town(0, 4), 1);
        bank.season();
        Checks.due("terms", bank.person(0, 2), 1);
        Checks.due("force can't be redone", bank.redo(), false);
        bank.undo();
        Checks.due("terms", bank.person(0, 2), 0);
        Checks.due("asked again", bank.town(0, 4), 1);
        bank.redo();
        Checks.due("terms", bank.person(0, 2), 1);
        Checks.due("nothing is asked", bank.town(0, 4), -1);
        Checks.due("done to TOWN 1", bank.town(1, 2), 1);
        // What is no ACT can't be undone and leaves what can be redone.
        bank.undo();
        bank.image(0);
        bank.later(1);
        bank.from(1, true);
        bank.untell(0);
        bank.rests(3);
        bank.feed(0, 0, 0, 0, 0);
        bank.end(3);
        bank.river();
        Checks.due("one to redo", bank.about(6), 1);
        Checks.due("three to undo", bank.about(5), 3);
        Checks.due("redo()", bank.redo(), true);
    }

    /** So many calls that the document leaves the answers free; here they go on as it tells. */
    private static void lastSeason() {
        FarBank bank = Checks.told("deed a here good 1 there good 2;person p of 0 first a;winter 50 of 1;");
        bank.force(0);
        for (int i = 0; i < 998; i++) {
            bank.season();
        }
        Checks.due("behind 998", bank.about(3), 998);
        Checks.due("one more", bank.season() >= 0, true);
        Checks.due("behind 999", bank.about(3), 999);
        int seed = bank.about(4);
        int weal = bank.town(0, 0);
        bank.undo();
        bank.redo();
        bank.undo();
        bank.season();
        bank.elect();
        bank.undo();
        Checks.due("no more than these", bank.season(), -1);
        Checks.due("behind 999", bank.about(3), 999);
        Checks.due("SEED", bank.about(4), seed);
        Checks.due("WEAL", bank.town(0, 0), weal);
        Checks.due("terms", bank.person(0, 2), 999);
        Checks.due("one can be redone still", bank.about(6), 1);
        Checks.due("what lies ahead goes on", bank.will(1, 60) > bank.will(1, 1), true);
        Checks.due("PETITIONS, too", bank.petition(1, 3), bank.will(1, 3));
        Checks.due("HOLD, too", bank.hold(1, 60), 0);
        Checks.due("image", bank.image(0), 999);
        Checks.due("back", bank.back(0), 999);
        Checks.due("season()", bank.season(), -1);
    }

    // ---- winters

    /** The rest of the SEED by 100 just below, at and just above what winter tells, with all hundreds. */
    private static void winters() {
        for (int draw = 0; draw <= 999; draw += 37) {
            int seed = (draw * 137 + 71) % 1000;
            int rest = seed % 100;
            for (int rate : new int[] {0, rest, rest + 1, 100}) {
                FarBank bank = Checks.told("winter " + rate + " of 50;draw " + draw + ";");
                boolean winter = rest < rate;
                Checks.due("ruin by " + draw, bank.ruin(0) == 1, winter);
                Checks.due("winter by " + draw, bank.season(), winter ? 1 : 0);
                Checks.due("SEED", bank.about(4), seed);
                Checks.due("WEAL of TOWN 0", bank.town(0, 0), winter ? -50 : 0);
                Checks.due("WEAL of TOWN 1", bank.town(1, 0), winter ? -50 : 0);
            }
        }
        FarBank bank = Checks.told("draw 999;");
        Checks.due("season()", bank.season(), 0);
        Checks.due("999 * 137 + 71, modulo 1000", bank.about(4), 934);
        bank = new FarBank();
        bank.season();
        Checks.due("not told: 0 * 137 + 71", bank.about(4), 71);
    }

    public static void main(String[] args) {
        wraps();
        cutAndRest();
        relations();
        order();
        favourites();
        likeVotes();
        elections();
        terms();
        anew();
        emptyTowns();
        kept();
        another();
        eachAct();
        lastSeason();
        winters();
        Checks.close("StateEdgesTest");
    }
}
