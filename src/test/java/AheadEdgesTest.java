import java.util.ArrayList;
import java.util.Arrays;
import java.util.List;

/**
 * The edges of ==== 3. What is told to lie ahead is held against what comes when it is done, call by call on other
 * objects; what is best, most, fewest or first against all that could be, gone through one by one.
 */
public final class AheadEdgesTest {
    private static final int NONE = FarBank.NONE;
    private static final int GAP = FarBank.GAP;
    private static final int[] SPANS = {1, 2, 3, 59, 60};

    /** The least and the most that DEEDS can be worth, one of TOWN 0 against seven. */
    private static final String WORST = "deed a here bad 50 there bad 50;person a of 0 first a;" + rows("person # of 1 first a;", 'b', 'h') + "winter 100 of 50;";
    private static final String FINEST = "deed a here good 50 there good 50;" + rows("person # of 1 first a;", 'b', 'h') + "person a of 0 first a;";
    private static final String MIXED = "deed a here good 2 there bad 1;deed b here bad 1 there good 3;deed c here good 0 there good 0;deed d here good 4 there bad 5;"
            + "deed e here bad 3 there good 5;person a of 1 first b on a does a on d does d;person b of 0 first c on a does b on b does d on c does e on d does a on e does c;"
            + "person c of 1 first a on a does b on b does c on c does d on d does e on e does a;person d of 0 first e on d does d;person e of 0 first b;"
            + "person f of 1 first d on e does b on b does e;winter 40 of 3;draw 11;";
    private static final String[] RIVERS = {ToldTest.SAMPLE, RefusedTest.FULL, WORST, FINEST, MIXED};

    private static String rows(String sort, char from, char to) {
        StringBuilder s = new StringBuilder();
        for (char c = from; c <= to; c++) {
            s.append(sort.replace('#', c));
        }
        return s.toString();
    }

    private static List<Integer> of(FarBank bank, int town) {
        List<Integer> all = new ArrayList<>();
        for (int p = 0; p < bank.about(0); p++) {
            if (bank.person(p, 0) == town) {
                all.add(p);
            }
        }
        return all;
    }

    /** In the midst of things: both are ruled, a DEED was done to each, and one is asked for. */
    private static FarBank midway(String text) {
        FarBank bank = Checks.told(text);
        bank.force(of(bank, 0).get(0));
        bank.force(of(bank, 1).get(0));
        bank.season();
        bank.drum(0, bank.about(1) - 1);
        return bank;
    }

    // ---- WEALS

    private static void willAndRuin() {
        for (String text : RIVERS) {
            for (int town = 0; town < 2; town++) {
                FarBank bank = midway(text);
                FarBank real = midway(text);
                int below = NONE;
                for (int n = 0; n <= 60; n++) {
                    Checks.due("will(" + town + ", " + n + ") of " + text, bank.will(town, n), real.town(town, 0));
                    below = below == NONE && real.town(town, 0) < 0 ? n : below;
                    real.season();
                }
                Checks.due("ruin(" + town + ") of " + text, bank.ruin(town), below);
            }
        }
    }

    /** A WEAL that goes down by 1 in each season: below 0 just behind one season more than it has. */
    private static void lateRuin() {
        String deeds = "deed a here good 50 there good 0;deed b here good 1 there good 0;deed c here bad 1 there good 0;";
        for (int weal = 0; weal <= 62; weal++) {
            FarBank bank = Checks.told(deeds + "person a of 1 first a;person b of 1 first b;person c of 1 first c;");
            for (int left = weal; left > 0; left -= left >= 50 ? 50 : 1) {
                bank.force(left >= 50 ? 0 : 1);
                bank.season();
            }
            Checks.due("WEAL", bank.town(1, 0), weal);
            Checks.due("ruin of what stays", bank.ruin(0), NONE);
            bank.force(2);
            Checks.due("ruin of " + weal, bank.ruin(1), weal + 1 <= 60 ? weal + 1 : NONE);
            Checks.due("will(1, 60)", bank.will(1, 60), weal - 60);
        }
        FarBank bank = Checks.told(deeds + "person c of 1 first c;person a of 1 first a;");
        bank.force(0);
        bank.season();
        bank.force(1);
        Checks.due("below 0 now, never again", bank.ruin(1), 0);
        Checks.due("0 is not below 0", bank.ruin(0), NONE);
    }

    /** Where each season has a winter, WILL tells what HOLD must see to. */
    private static void holdBack() {
        for (String text : RIVERS) {
            String winters = text.replaceAll("winter [0-9]+ of", "winter 100 of");
            for (int town = 0; town < 2; town++) {
                FarBank bank = midway(winters);
                int most = 0;
                for (int n = 0; n <= 60; n++) {
                    most = Math.max(most, bank.town(town, 0) - bank.will(town, n));
                    Checks.due("hold(" + town + ", " + n + ") of " + winters, bank.hold(town, n), most);
                }
            }
        }
        FarBank bank = Checks.told("deed a here good 3 there good 0;person p of 0 first a;winter 0 of 3;");
        bank.force(0);
        Checks.due("just as much as a winter takes", bank.hold(0, 60), 0);
        Checks.due("a winter in each season, though none comes", bank.hold(1, 60), 180);
        Checks.due("none", bank.hold(1, 0), 0);
        Checks.due("one", bank.hold(1, 1), 3);
    }

    private static long gcd(long a, long b) {
        return b == 0 ? a : gcd(b, a % b);
    }

    private static void odds() {
        for (int rate = 0; rate <= 100; rate++) {
            FarBank bank = Checks.told("winter " + rate + " of 1;draw " + rate + ";");
            long upper = 1;
            long lower = 1;
            for (int n = 0; n <= 4; n++) {
                long by = gcd(upper, lower);
                Checks.due("odds(" + n + ", 0) by " + rate, bank.odds(n, 0), upper / by);
                Checks.due("odds(" + n + ", 1) by " + rate, bank.odds(n, 1), lower / by);
                upper *= 100 - rate;
                lower *= 100;
            }
            bank.season();
            Checks.due("odds whatever the SEED is", bank.odds(1, 0), (100 - rate) / gcd(100 - rate, 100));
        }
    }

    // ---- SWAY

    private static boolean isElected(FarBank bank, int person, int swayed) {
        int[] votes = new int[bank.about(0)];
        for (int g = 0; g < bank.about(2); g++) {
            int p = (swayed >> g & 1) == 1 ? person : bank.group(g, 3);
            if (p != NONE) {
                votes[p] += bank.group(g, 1);
            }
        }
        for (int p : of(bank, bank.person(person, 0))) {
            if (votes[p] > votes[person] || votes[p] == votes[person] && p < person) {
                return false;
            }
        }
        return true;
    }

    private static void sways() {
        String persons = "deed a here good 1 there good 3;deed b here good 2 there good 2;deed c here good 3 there good 1;"
                + "person a of 0 first a;person b of 1 first b;person c of 0 first b;person d of 0 first c;person e of 1 first c;";
        String[] ballots = {"", "group a of 0 many 1;", "group a of 1 many 1;group b of 0 many 2;",
            "group a of 0 many 5;group b of 0 many 5;group c of 0 many 5;group d of 0 many 5;group e of 0 many 5;group f of 0 many 5;",
            "group a of 0 many 1;group b of 0 many 2 pity 1;group c of 1 many 9;group d of 0 many 4;group e of 0 many 8 pity 1;group f of 0 many 16 pity 2;",
            "group a of 0 many 9 pity 1;group b of 0 many 9 pity 2;group c of 0 many 9;group d of 0 many 1 pity 1;group e of 0 many 1 pity 2;group f of 0 many 1;"};
        for (String groups : ballots) {
            FarBank bank = Checks.told(persons + groups + "vote (pity=0)*here+(pity=1)*there+(pity=2)*(here=2);");
            for (int p = 0; p < bank.about(0); p++) {
                int best = NONE;
                for (int set = 0; set < 1 << bank.about(2); set++) {
                    boolean may = true;
                    for (int g = 0; g < bank.about(2); g++) {
                        may = may && ((set >> g & 1) == 0 || bank.group(g, 0) == bank.person(p, 0) && bank.group(g, 3) != p);
                    }
                    boolean fewer = best == NONE || Integer.bitCount(set) < Integer.bitCount(best);
                    best = may && fewer && isElected(bank, p, set) ? set : best;
                }
                Checks.due("sway(" + p + ", 0) of " + groups, bank.sway(p, 0), best == NONE ? NONE : Integer.bitCount(best));
                Checks.due("sway(" + p + ", 1) of " + groups, bank.sway(p, 1), best);
                Checks.due("0 if he is ELECTED", bank.sway(p, 0) == 0, bank.elected(bank.person(p, 0)) == p);
            }
        }
    }

    // ---- PETITIONS

    /** What comes of drums for these DEEDS, one ahead of each season, done for real. */
    private static int drummed(String text, int town, int[] pleas) {
        FarBank bank = midway(text);
        for (int plea : pleas) {
            if (plea != NONE) {
                bank.drum(town, plea);
            }
            bank.season();
        }
        return bank.town(town, 0);
    }

    private static void petitions() {
        for (String text : RIVERS) {
            int deeds = midway(text).about(1);
            for (int town = 0; town < 2; town++) {
                for (int n = 1; n <= 3; n++) {
                    int[] pleas = new int[n];
                    Arrays.fill(pleas, NONE);
                    int[] best = pleas.clone();
                    int most = drummed(text, town, pleas);
                    while (next(pleas, deeds)) {
                        int weal = drummed(text, town, pleas);
                        if (weal > most || weal == most && asked(pleas) < asked(best)) {
                            most = weal;
                            best = pleas.clone();
                        }
                    }
                    FarBank bank = midway(text);
                    Checks.due("petition(" + town + ", " + n + ") of " + text, bank.petition(town, n), most);
                    Checks.due("numbers", bank.about(11), n);
                    for (int i = 0; i < n; i++) {
                        Checks.due("lies(" + i + ") behind petition(" + town + ", " + n + ") of " + text, bank.lies(i), best[i]);
                    }
                    Checks.due("lies(" + n + ")", bank.lies(n), -2);
                }
            }
        }
    }

    private static boolean next(int[] pleas, int deeds) {
        for (int i = pleas.length - 1; i >= 0; i--) {
            pleas[i]++;
            if (pleas[i] < deeds) {
                return true;
            }
            pleas[i] = NONE;
        }
        return false;
    }

    private static int asked(int[] pleas) {
        int count = 0;
        for (int plea : pleas) {
            count += plea == NONE ? 0 : 1;
        }
        return count;
    }

    private static void lie(FarBank bank, int town, int n, int weal, int... want) {
        Checks.due("petition(" + town + ", " + n + ")", bank.petition(town, n), weal);
        for (int i = 0; i < want.length; i++) {
            Checks.due("lies(" + i + ")", bank.lies(i), want[i]);
        }
    }

    /** As much by fewer DEEDS asked for, though others would come first; and of as many the first. */
    private static void fewest() {
        FarBank bank = Checks.told("deed a here bad 2 there good 2;deed b here good 1 there good 1;deed c here good 3 there good 3;"
                + "person p of 0 first a on a does b on b does c on c does b;person q of 1 first a on a does c on b does c on c does a;");
        bank.force(0);
        bank.force(1);
        // b, none, c comes to 9 as well.
        lie(bank, 0, 3, 9, 2, -1, -1);
        bank = Checks.told("deed a here good 3 there bad 2;deed b here good 3 there good 3;deed c here bad 2 there good 3;"
                + "person p of 0 first b on a does a on b does b on c does a;person q of 1 first a on a does b on b does a on c does c;");
        bank.force(0);
        bank.force(1);
        // b, b, b comes to 18 as well.
        lie(bank, 0, 3, 18, 2, 1, -1);
        bank = Checks.told("deed a here good 0 there bad 1;deed b here bad 1 there bad 2;person p of 0 first b on a does b on b does a;"
                + "person q of 1 first b on a does b on b does a;");
        bank.force(0);
        bank.force(1);
        // a, none, none comes to -6 as well, by as many.
        lie(bank, 0, 3, -6, -1, -1, 0);
        String like = "deed a here good 0 there good 0;deed b here good 0 there good 1;deed c here good 0 there good 1;";
        bank = Checks.told(like + "person p of 0 first b;person q of 1 first a;");
        bank.force(0);
        bank.force(1);
        lie(bank, 1, 3, 3, -1, -1, -1);
        lie(bank, 0, 1, 1, 1);
        lie(bank, 0, 2, 2, 1, 1);
        lie(bank, 0, 3, 3, 1, 1, 1);
    }

    /** One TOWN is ruled, the other one is not. */
    private static void unruled() {
        for (int town = 0; town < 2; town++) {
            FarBank bank = Checks.told(MIXED);
            bank.force(of(bank, town).get(0));
            Checks.due("nobody rules it", bank.petition(town, 1), GAP);
            Checks.due("no numbers", bank.about(11), 0);
            Checks.due("ruled", bank.petition(1 - town, 1) != GAP, true);
            Checks.due("a number", bank.about(11), 1);
            bank.undo();
            Checks.due("it lies there behind undo, too", bank.about(11), 1);
            Checks.due("nobody rules it any more", bank.petition(1 - town, 1), GAP);
            Checks.due("no numbers", bank.about(11), 0);
        }
    }

    // ---- GAMES

    /** PAY is what comes when both are put in as SPEAKERS of a new RIVER without winters. */
    private static void pays() {
        for (String text : RIVERS) {
            String calm = text.replaceAll("winter [0-9]+ of", "winter 0 of");
            FarBank bank = midway(text);
            for (int p : of(bank, 0)) {
                for (int q : of(bank, 1)) {
                    FarBank real = Checks.told(calm);
                    real.force(p);
                    real.force(q);
                    for (int n = 0; n <= 60; n++) {
                        Checks.due("pay(" + p + ", " + q + ", " + n + ", 0)", bank.pay(p, q, n, 0), real.town(0, 0));
                        Checks.due("pay(" + p + ", " + q + ", " + n + ", 1)", bank.pay(p, q, n, 1), real.town(1, 0));
                        Checks.due("pay(" + q + ", " + p + ", " + n + ", 0)", bank.pay(q, p, n, 0), real.town(1, 0));
                        Checks.due("pay(" + q + ", " + p + ", " + n + ", 1)", bank.pay(q, p, n, 1), real.town(0, 0));
                        real.season();
                    }
                    round(bank, p, q);
                    round(bank, q, p);
                }
            }
        }
    }

    /** The fewest seasons ahead, then the fewest that it takes, so that the rest of 120 seasons goes round. */
    private static void round(FarBank bank, int p, int q) {
        int[] did = new int[120];
        int a = bank.does(p, NONE);
        int b = bank.does(q, NONE);
        for (int i = 0; i < did.length; i++) {
            did[i] = a * 5 + b;
            int next = bank.does(p, b);
            b = bank.does(q, a);
            a = next;
        }
        int from = 0;
        int takes = 0;
        for (int f = 0; f < 30 && takes == 0; f++) {
            for (int t = 1; t <= 30 && takes == 0; t++) {
                boolean goes = true;
                for (int i = f; i + t < did.length; i++) {
                    goes = goes && did[i] == did[i + t];
                }
                if (goes) {
                    from = f;
                    takes = t;
                }
            }
        }
        Checks.due("round(" + p + ", " + q + ", 0)", bank.round(p, q, 0), from);
        Checks.due("round(" + p + ", " + q + ", 1)", bank.round(p, q, 1), takes);
        int worth = bank.pay(p, q, from + takes, 0) - bank.pay(p, q, from, 0);
        long by = gcd(Math.abs(worth), takes);
        Checks.due("mean(" + p + ", " + q + ", 0)", bank.mean(p, q, 0), worth / by);
        Checks.due("mean(" + p + ", " + q + ", 1)", bank.mean(p, q, 1), takes / by);
    }

    private static void againstAll() {
        for (String text : RIVERS) {
            FarBank bank = midway(text);
            for (int n : SPANS) {
                int[] champion = {NONE, NONE};
                int[] most = {0, 0};
                for (int p = 0; p < bank.about(0); p++) {
                    int town = bank.person(p, 0);
                    int best = NONE;
                    int sum = 0;
                    int feared = 0;
                    for (int q : of(bank, 1 - town)) {
                        if (best == NONE || bank.pay(p, q, n, 1) > bank.pay(p, best, n, 1)) {
                            best = q;
                        }
                        sum += bank.pay(p, q, n, 0);
                        feared |= bank.pay(p, q, n, 0) < 0 ? 1 << q : 0;
                    }
                    Checks.due("best(" + p + ", " + n + ")", bank.best(p, n), best);
                    Checks.due("total(" + p + ", " + n + ")", bank.total(p, n), sum);
                    Checks.due("feared(" + p + ", " + n + ")", bank.feared(p, n), feared);
                    if (champion[town] == NONE || sum > most[town]) {
                        champion[town] = p;
                        most[town] = sum;
                    }
                }
                Checks.due("champion(0, " + n + ")", bank.champion(0, n), champion[0]);
                Checks.due("champion(1, " + n + ")", bank.champion(1, n), champion[1]);
                pairs(bank, n);
            }
        }
    }

    private static void pairs(FarBank bank, int n) {
        int rests = 0;
        int[] first = {-2, -2};
        int most = GAP;
        int[] by = {-2, -2};
        for (int p : of(bank, 0)) {
            for (int q : of(bank, 1)) {
                boolean rest = true;
                for (int r = 0; r < bank.about(0); r++) {
                    rest = rest && (bank.person(r, 0) == 0 ? bank.pay(r, q, n, 0) <= bank.pay(p, q, n, 0) : bank.pay(p, r, n, 1) <= bank.pay(p, q, n, 1));
                }
                if (rest && rests == 0) {
                    first = new int[] {p, q};
                }
                rests += rest ? 1 : 0;
                int both = bank.pay(p, q, n, 0) + bank.pay(p, q, n, 1);
                if (both > most) {
                    most = both;
                    by = new int[] {p, q};
                }
            }
        }
        Checks.due("rests(" + n + ")", bank.rests(n), rests);
        Checks.due("numbers", bank.about(11), rests == 0 ? 0 : 2);
        Checks.due("lies(0)", bank.lies(0), first[0]);
        Checks.due("lies(1)", bank.lies(1), first[1]);
        Checks.due("concord(" + n + ")", bank.concord(n), most);
        Checks.due("numbers", bank.about(11), 2);
        Checks.due("lies(0)", bank.lies(0), by[0]);
        Checks.due("lies(1)", bank.lies(1), by[1]);
        Checks.due("lies(2)", bank.lies(2), -2);
    }

    private static void extremes() {
        FarBank bank = Checks.told(WORST);
        Checks.due("the least PAY", bank.pay(0, 1, 60, 0), -6000);
        Checks.due("the least total", bank.total(0, 60), -42000);
        Checks.due("all are feared", bank.feared(0, 60), 254);
        Checks.due("the one over there is feared", bank.feared(7, 1), 1);
        Checks.due("the least concord", bank.concord(60), -12000);
        Checks.due("all are at rest", bank.rests(60), 7);
        Checks.due("all are twins", bank.twins(0), 255);
        Checks.due("the least WEAL", bank.will(0, 60), -3000);
        bank = Checks.told(FINEST);
        Checks.due("the most total", bank.total(7, 60), 42000);
        Checks.due("nobody is feared", bank.feared(7, 60), 0);
        Checks.due("the most concord", bank.concord(60), 12000);
        Checks.due("of TOWN 0", bank.lies(0), 7);
        Checks.due("of TOWN 1", bank.lies(1), 0);
        Checks.due("the champion of seven like ones", bank.champion(1, 60), 0);
        Checks.due("the best of seven like ones", bank.best(7, 60), 0);
        Checks.due("the mean", bank.mean(0, 7, 0), 100);
        Checks.due("the mean", bank.mean(0, 7, 1), 1);
        bank = Checks.told("deed a here good 1 there bad 1;" + rows("person # of 0 first a;", 'a', 'd') + rows("person # of 1 first a;", 'e', 'h'));
        Checks.due("16 pairs at rest", bank.rests(60), 16);
        Checks.due("PAY of 0", bank.pay(0, 4, 60, 0), 0);
        Checks.due("is not feared", bank.feared(0, 60), 0);
        Checks.due("mean 0", bank.mean(0, 4, 0), 0);
        Checks.due("of 1", bank.mean(0, 4, 1), 1);
        Checks.due("concord 0", bank.concord(60), 0);
        bank = Checks.told("deed a here good 0 there bad 1;person a of 0 first a;person b of 1 first a;");
        Checks.due("PAY of -1", bank.pay(0, 1, 1, 0), -1);
        Checks.due("is feared", bank.feared(0, 1), 2);
    }

    private static void twins() {
        FarBank bank = Checks.told(MIXED);
        for (int p = 0; p < bank.about(0); p++) {
            int set = 0;
            for (int q = 0; q < bank.about(0); q++) {
                boolean same = true;
                for (int d = NONE; d < bank.about(1); d++) {
                    same = same && bank.does(p, d) == bank.does(q, d);
                }
                set |= same ? 1 << q : 0;
            }
            Checks.due("twins(" + p + ")", bank.twins(p), set);
        }
        // They differ at first alone, on the first DEED alone, on the last one alone.
        String deeds = rows("deed # here good 1 there good 1;", 'a', 'e');
        String on = " on a does a on b does a on c does a on d does a on e does a;";
        bank = Checks.told(deeds + "person a of 0 first a;person b of 1 first a" + on + "person c of 1 first b" + on + "person d of 0 first a on a does b;"
                + "person e of 0 first a on e does e;person f of 1 first a on e does a;");
        int[] want = {1 + 2 + 32, 1 + 2 + 32, 4, 8, 16, 1 + 2 + 32};
        for (int p = 0; p < want.length; p++) {
            Checks.due("twins(" + p + ")", bank.twins(p), want[p]);
        }
    }

    // ---- TREATIES

    private static boolean tempts(FarBank bank, int own, int other, int n) {
        int best = bank.deed(0, 0);
        int worst = bank.deed(0, 1);
        for (int d = 0; d < bank.about(1); d++) {
            best = Math.max(best, bank.deed(d, 0));
            worst = Math.min(worst, bank.deed(d, 1));
        }
        for (int d = 0; d < bank.about(1); d++) {
            int now = bank.deed(d, 0) + bank.deed(other, 1);
            if (d != own && now + n * (best + worst) > (n + 1) * (bank.deed(own, 0) + bank.deed(other, 1))) {
                return true;
            }
        }
        return false;
    }

    private static void treaties() {
        for (String text : RIVERS) {
            FarBank bank = Checks.told(text);
            int deeds = bank.about(1);
            for (int n = 0; n <= 60; n++) {
                int count = 0;
                for (int d = 0; d < deeds; d++) {
                    for (int e = 0; e < deeds; e++) {
                        boolean holds = !tempts(bank, d, e, n) && !tempts(bank, e, d, n);
                        Checks.due("holds(" + d + ", " + e + ", " + n + ") of " + text, bank.holds(d, e, n), holds ? 1 : 0);
                        count += holds ? 1 : 0;
                    }
                }
                Checks.due("treaties(" + n + ") of " + text, bank.treaties(n), count);
            }
            fair(bank);
        }
    }

    private static void fair(FarBank bank) {
        int zero = NONE;
        int one = NONE;
        int less = 0;
        int sum = 0;
        for (int d = 0; d < bank.about(1); d++) {
            for (int e = 0; e < bank.about(1); e++) {
                int a = bank.deed(d, 0) + bank.deed(e, 1);
                int b = bank.deed(e, 0) + bank.deed(d, 1);
                if (zero == NONE || Math.min(a, b) > less || Math.min(a, b) == less && a + b > sum) {
                    zero = d;
                    one = e;
                    less = Math.min(a, b);
                    sum = a + b;
                }
            }
        }
        Checks.due("fair(0)", bank.fair(0), zero);
        Checks.due("fair(1)", bank.fair(1), one);
        Checks.due("fair(2)", bank.fair(2), less);
    }

    /** A treaty holds from just that patience on from which breaking it is worth no more. */
    private static void patience() {
        // Kept: 0 + 10 a season; broken: 40 + 10 now, then 40 - 40 a season.
        FarBank bank = Checks.told("deed a here good 0 there good 10;deed b here good 40 there bad 40;");
        for (int n = 0; n <= 60; n++) {
            Checks.due("50 against 10 a season, patience " + n, bank.holds(0, 0, n), n < 4 ? 0 : 1);
        }
        Checks.due("just not", bank.holds(0, 0, 3), 0);
        Checks.due("worth the same", bank.holds(0, 0, 4), 1);
        // No DEED but one: nothing else can be done.
        bank = Checks.told("deed a here bad 50 there bad 50;");
        Checks.due("treaties(0)", bank.treaties(0), 1);
        Checks.due("treaties(60)", bank.treaties(60), 1);
        Checks.due("fair(2)", bank.fair(2), -100);
        bank = Checks.told("deed a here good 50 there good 50;deed b here good 50 there good 50;");
        Checks.due("like ones: the first", bank.fair(0), 0);
        Checks.due("like ones: the first", bank.fair(1), 0);
        Checks.due("worth the most", bank.fair(2), 100);
        Checks.due("all hold", bank.treaties(60), 4);
        // Whichever DEED is the worst there and whichever the best here: kept, 1 + 2 a season; broken, 3 + 2 now, then 3 - 7.
        String[] three = {"deed # here good 1 there good 2;", "deed # here good 3 there good 0;", "deed # here good 0 there bad 7;"};
        int[][] orders = {{0, 1, 2}, {0, 2, 1}, {1, 0, 2}, {1, 2, 0}, {2, 0, 1}, {2, 1, 0}};
        for (int[] order : orders) {
            String text = "";
            int kept = 0;
            for (int i = 0; i < 3; i++) {
                text += three[order[i]].replace('#', (char) ('a' + i));
                kept = order[i] == 0 ? i : kept;
            }
            bank = Checks.told(text);
            Checks.due("5 against 3", bank.holds(kept, kept, 0), 0);
            Checks.due("1 against 6", bank.holds(kept, kept, 1), 1);
            Checks.due("fair(2)", bank.fair(2), 3);
        }
        bank = Checks.told(rows("deed # here good 0 there good 0;", 'a', 'd') + "deed e here good 0 there good 1;");
        Checks.due("the last one", bank.fair(0), 4);
        Checks.due("the last one", bank.fair(1), 4);
        Checks.due("worth 1", bank.fair(2), 1);
    }

    public static void main(String[] args) {
        willAndRuin();
        lateRuin();
        holdBack();
        odds();
        sways();
        petitions();
        fewest();
        unruled();
        pays();
        againstAll();
        extremes();
        twins();
        treaties();
        patience();
        Checks.close("AheadEdgesTest");
    }
}
