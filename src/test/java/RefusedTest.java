import java.util.function.Supplier;
import java.util.function.ToLongFunction;

/**
 * Calls that are refused: what they answer, and that all is as before them. Each is tried on one of two objects
 * that were brought to the same state; then all that can be asked of both must be the same.
 */
public final class RefusedTest {
    private static final int GAP = FarBank.GAP;

    /** A full RIVER, so that the first number that can't be is behind the last row that there is. */
    static final String FULL = "deed a here good 1 there bad 1;deed b here bad 2 there good 4;deed c here good 5 there bad 6;deed d here good 0 there good 1;"
            + "deed e here bad 3 there good 9;"
            + "person a of 0 first a;person b of 0 first b on c does c;person c of 0 first c;person d of 0 first d on a does e;"
            + "person e of 1 first a on b does b;person f of 1 first b;person g of 1 first e on e does a;person h of 1 first c;"
            + "group a of 0 many 3;group b of 0 many 4 pity 1;group c of 0 many 5 pity 9;group d of 1 many 6;group e of 1 many 7 pity 2;group f of 1 many 8;"
            + "vote here * (3 - pity) + there * pity - terms;winter 30 of 2;draw 7;";

    private static String state = "";

    private static FarBank fresh() {
        return new FarBank();
    }

    /** Midway: ACTS to undo and to redo, a DEED asked for, one BOX full, some SEEN, numbers that lie there, bytes on the TAPE. */
    private static FarBank busy() {
        FarBank bank = Checks.told(ToldTest.SAMPLE);
        bank.elect();
        bank.season();
        bank.image(1);
        bank.drum(0, 2);
        bank.force(1);
        bank.season();
        bank.undo();
        bank.later(4);
        bank.seen(1, 1, false);
        bank.later(2);
        bank.untell(0);
        bank.from(1, true);
        bank.concord(4);
        Checks.put(bank, "draw 5;");
        return bank;
    }

    /** All rows are full: 40 ACTS, of which two are taken back, 30 SEEN, three BOXES, three numbers that lie there. */
    private static FarBank full() {
        FarBank bank = Checks.told(FULL);
        bank.force(1);
        bank.force(5);
        for (int i = 0; i < 38; i++) {
            bank.season();
        }
        bank.drum(0, 0);
        bank.drum(1, 3);
        bank.undo();
        bank.undo();
        for (int box = 0; box < 3; box++) {
            bank.image(box);
            bank.redo();
        }
        bank.undo();
        bank.petition(1, 3);
        for (int i = 0; i < 15; i++) {
            bank.seen(-1, 1, true);
            bank.from(1, false);
        }
        return bank;
    }

    /** A TAPE of 1,600 bytes. */
    private static FarBank fullTape() {
        FarBank bank = new FarBank();
        for (int i = 0; i < 80; i++) {
            bank.feed(0x20202020, 0x0a0a0a0a, 0x20202020, 0x20202020, 0x20202020);
        }
        return bank;
    }

    private static void refused(String call, Supplier<FarBank> made, ToLongFunction<FarBank> tried, long answer) {
        FarBank plain = made.get();
        FarBank other = made.get();
        Checks.due(state + call, tried.applyAsLong(other), answer);
        Picture.same(state + call, other, plain);
    }

    private static long of(boolean is) {
        return is ? 1 : 0;
    }

    /** What no state allows, as these numbers are never there. */
    private static void never(Supplier<FarBank> made) {
        for (int n : new int[] {Integer.MIN_VALUE, GAP, -2, 8, 12, 61, 1601, 100001, Integer.MAX_VALUE}) {
            refused("end(" + n + ")", made, b -> n < 0 || n > 1600 ? b.end(n) : -1, -1);
            refused("force(" + n + ")", made, b -> b.force(n), -1);
            refused("drum(" + n + ", 0)", made, b -> b.drum(n, 0), -1);
            refused("drum(0, " + n + ")", made, b -> b.drum(0, n), -1);
            refused("seen(" + n + ", 0, true)", made, b -> b.seen(n, 0, true), -1);
            refused("seen(0, " + n + ", false)", made, b -> b.seen(0, n, false), -1);
            refused("from(" + n + ", true)", made, b -> b.from(n, true), -1);
            refused("later(" + n + ")", made, b -> n < 0 || n > 1000 ? b.later(n) : -1, -1);
            refused("image(" + n + ")", made, b -> b.image(n), -1);
            refused("back(" + n + ")", made, b -> b.back(n), -1);
        }
        for (int n : new int[] {Integer.MIN_VALUE, -1, 30, 31, Integer.MAX_VALUE}) {
            refused("untell(" + n + ")", made, b -> of(b.untell(n)), 0);
        }
        refused("end(-1)", made, b -> b.end(-1), -1);
        refused("force(-1)", made, b -> b.force(-1), -1);
        refused("drum(-1, 0)", made, b -> b.drum(-1, 0), -1);
        refused("drum(2, 0)", made, b -> b.drum(2, 0), -1);
        refused("drum(0, -1)", made, b -> b.drum(0, -1), -1);
        refused("drum(0, 5)", made, b -> b.drum(0, 5), -1);
        refused("seen(-1, -1, true)", made, b -> b.seen(-1, -1, true), -1);
        refused("seen(5, 0, true)", made, b -> b.seen(5, 0, true), -1);
        refused("seen(0, 5, true)", made, b -> b.seen(0, 5, true), -1);
        refused("from(-1, true)", made, b -> b.from(-1, true), -1);
        refused("from(2, false)", made, b -> b.from(2, false), -1);
        refused("later(-1)", made, b -> b.later(-1), -1);
        refused("later(1001)", made, b -> b.later(1001), -1);
        refused("image(-1)", made, b -> b.image(-1), -1);
        refused("image(3)", made, b -> b.image(3), -1);
        refused("back(-1)", made, b -> b.back(-1), -1);
        refused("back(3)", made, b -> b.back(3), -1);
    }

    private static long count(int[] all, int but) {
        long count = 0;
        for (int one : all) {
            count += one == but ? 0 : 1;
        }
        return count;
    }

    /** What is only asked for does nothing, whether it can be or not. */
    private static void asked(Supplier<FarBank> made) {
        for (int n : new int[] {Integer.MIN_VALUE, -3, 61, Integer.MAX_VALUE}) {
            refused("questions that answer NONE to " + n, made, b -> count(new int[] {b.fault(n), b.person(n, 0), b.person(0, n), b.does(n, 0),
                b.does(0, n), b.group(n, 0), b.group(0, n), b.votes(n), b.elected(n), b.margin(n, 0), b.margin(0, n), b.ruin(n), b.sway(n, 0),
                b.sway(0, n), b.best(n, 1), b.best(0, n), b.champion(n, 1), b.champion(0, n), b.twins(n), b.round(n, 0, 0), b.round(0, n, 0),
                b.round(0, 4, n), b.holds(n, 0, 0), b.holds(0, n, 0), b.holds(0, 0, n), b.treaties(n), b.hold(n, 0), b.hold(0, n), b.odds(n, 0),
                b.odds(0, n), b.feared(n, 1), b.feared(0, n), b.about(n)}, -1), 0);
            refused("questions that answer GAP to " + n, made, b -> count(new int[] {b.deed(n, 0), b.deed(0, n), b.town(n, 0), b.town(0, n),
                b.will(n, 0), b.will(0, n), b.pay(n, 0, 1, 0), b.pay(0, n, 1, 0), b.pay(0, 4, n, 0), b.pay(0, 4, 1, n), b.total(n, 1), b.total(0, n),
                b.mean(n, 0, 0), b.mean(0, n, 0), b.mean(0, 4, n), b.fair(n)}, GAP), 0);
            refused("questions that answer -2 to " + n, made, b -> count(new int[] {b.lies(n), b.ask(n, 0)}, -2), 0);
        }
        refused("questions", made, b -> {
            b.will(0, 60);
            b.will(1, 0);
            b.ruin(0);
            b.margin(0, 0);
            b.sway(1, 1);
            b.pay(0, 4, 60, 0);
            b.best(0, 60);
            b.total(1, 60);
            b.champion(1, 60);
            b.twins(0);
            b.round(0, 4, 0);
            b.mean(0, 4, 1);
            b.fair(2);
            b.holds(0, 0, 60);
            b.treaties(60);
            b.hold(1, 60);
            b.odds(4, 1);
            b.feared(0, 60);
            b.ask(0, 3);
            b.ask(1, Integer.MIN_VALUE);
            return b.fault(0);
        }, 0);
    }

    /** These leave no numbers where some lay, and all else as it was. */
    private static void nothingLies(Supplier<FarBank> made) {
        Supplier<FarBank> bare = () -> {
            FarBank bank = made.get();
            bank.rests(0);
            return bank;
        };
        for (int n : new int[] {Integer.MIN_VALUE, -1, 0, 61, Integer.MAX_VALUE}) {
            FarBank plain = bare.get();
            FarBank other = made.get();
            Checks.due(state + "rests(" + n + ")", other.rests(n), -1);
            Checks.due(state + "lies(0)", other.lies(0), -2);
            Picture.same(state + "rests(" + n + ")", other, plain);
            plain = bare.get();
            other = made.get();
            Checks.due(state + "concord(" + n + ")", other.concord(n), GAP);
            Checks.due(state + "lies(0)", other.lies(0), -2);
            Picture.same(state + "concord(" + n + ")", other, plain);
        }
        int[][] pleas = {{0, 0}, {0, 4}, {1, -1}, {2, 1}, {-1, 1}, {0, Integer.MAX_VALUE}, {1, Integer.MIN_VALUE}, {Integer.MAX_VALUE, 2}, {Integer.MIN_VALUE, 3}};
        for (int[] plea : pleas) {
            FarBank plain = bare.get();
            FarBank other = made.get();
            Checks.due(state + "petition(" + plea[0] + ", " + plea[1] + ")", other.petition(plea[0], plea[1]), GAP);
            Checks.due(state + "lies(0)", other.lies(0), -2);
            Picture.same(state + "petition(" + plea[0] + ", " + plea[1] + ")", other, plain);
        }
    }

    private static void ofAnEmptyRiver() {
        state = "new object: ";
        never(RefusedTest::fresh);
        asked(RefusedTest::fresh);
        nothingLies(RefusedTest::fresh);
        refused("end(1)", RefusedTest::fresh, b -> b.end(1), -1);
        refused("force(0)", RefusedTest::fresh, b -> b.force(0), -1);
        refused("drum(0, 0)", RefusedTest::fresh, b -> b.drum(0, 0), -1);
        refused("undo()", RefusedTest::fresh, b -> of(b.undo()), 0);
        refused("redo()", RefusedTest::fresh, b -> of(b.redo()), 0);
        refused("seen(-1, 0, true)", RefusedTest::fresh, b -> b.seen(-1, 0, true), -1);
        refused("untell(0)", RefusedTest::fresh, b -> of(b.untell(0)), 0);
        refused("back(0)", RefusedTest::fresh, b -> b.back(0), -1);
        refused("petition(0, 1)", RefusedTest::fresh, b -> b.petition(0, 1), GAP);
        refused("concord(1)", RefusedTest::fresh, b -> b.concord(1), GAP);
        refused("rests(1)", RefusedTest::fresh, b -> b.rests(1), 0);
    }

    private static void midway() {
        state = "midway: ";
        never(RefusedTest::busy);
        asked(RefusedTest::busy);
        nothingLies(RefusedTest::busy);
        refused("end(8)", RefusedTest::busy, b -> b.end(8), -1);
        refused("end(7)", RefusedTest::busy, b -> b.end(7), 7);
        refused("force(4)", RefusedTest::busy, b -> b.force(4), -1);
        refused("force of a SPEAKER of TOWN 0", RefusedTest::busy, b -> b.force(b.town(0, 1)), -1);
        refused("force of a SPEAKER of TOWN 1", RefusedTest::busy, b -> b.force(b.town(1, 1)), -1);
        refused("drum of what is asked for", RefusedTest::busy, b -> b.drum(0, b.town(1, 4)), -1);
        refused("drum(0, 3)", RefusedTest::busy, b -> b.drum(0, 3), -1);
        refused("seen(3, 0, true)", RefusedTest::busy, b -> b.seen(3, 0, true), -1);
        refused("seen(0, 3, true)", RefusedTest::busy, b -> b.seen(0, 3, true), -1);
        refused("untell of what is UNTOLD", RefusedTest::busy, b -> of(b.untell(0)), 0);
        refused("untell(2)", RefusedTest::busy, b -> of(b.untell(2)), 0);
        refused("later(0)", RefusedTest::busy, b -> b.later(0), 6);
        refused("back of an empty BOX", RefusedTest::busy, b -> b.back(0), -1);
        refused("back of an empty BOX", RefusedTest::busy, b -> b.back(2), -1);
    }

    private static void fullRows() {
        state = "full: ";
        never(RefusedTest::full);
        asked(RefusedTest::full);
        nothingLies(RefusedTest::full);
        refused("seen(-1, 0, true)", RefusedTest::full, b -> b.seen(-1, 0, true), -1);
        refused("from(0, true)", RefusedTest::full, b -> b.from(0, true), -1);
        refused("untell(30)", RefusedTest::full, b -> of(b.untell(30)), 0);
        refused("force(8)", RefusedTest::full, b -> b.force(8), -1);
        refused("force of a SPEAKER", RefusedTest::full, b -> b.force(1), -1);
        refused("drum of what is asked for", RefusedTest::full, b -> b.drum(0, 0), -1);
    }

    private static void fullTapes() {
        state = "full TAPE: ";
        refused("feed", RefusedTest::fullTape, b -> b.feed(0x64656564, 0, -1, Integer.MIN_VALUE, Integer.MAX_VALUE), -1);
        refused("end(1601)", RefusedTest::fullTape, b -> b.end(1601), -1);
        refused("end(1600)", RefusedTest::fullTape, b -> b.end(1600), 1600);
        for (int n = 1581; n < 1600; n++) {
            int rest = n;
            Supplier<FarBank> made = () -> {
                FarBank bank = fullTape();
                bank.end(rest);
                return bank;
            };
            refused("feed behind end(" + n + ")", made, b -> b.feed(0, 0, 0, 0, 0), -1);
        }
    }

    /** A FAULT: all stays, the TAPE too, but for what fault() tells. */
    private static void faults() {
        state = "";
        String[] texts = {"$", "deed", "deed z here good 1 there good 1;deed z", "draw 1000;", "person z of 0 first z;", FULL + ";",
            FULL.substring(0, FULL.length() - 1), "vote 1;winter 7 of 9;draw 8;x"};
        for (String text : texts) {
            Supplier<FarBank> made = () -> {
                FarBank bank = busy();
                bank.end(0);
                Checks.put(bank, text);
                return bank;
            };
            FarBank plain = made.get();
            FarBank other = made.get();
            Checks.due("river of " + text, other.river(), -1);
            Checks.due("bytes of " + text, other.about(9), text.length());
            Picture.same("behind river of " + text, other, plain);
        }
    }

    public static void main(String[] args) {
        ofAnEmptyRiver();
        midway();
        fullRows();
        fullTapes();
        faults();
        Checks.close("RefusedTest");
    }
}
