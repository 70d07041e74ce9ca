/** Promises 40 to 45 and 48: what is SEEN, as known at a TIME. */
public final class SeenTest {
    private static void telling() {
        FarBank bank = Checks.told(ToldTest.SAMPLE);
        Checks.due("all FIT at first", bank.fits(0), 15);
        Checks.due("seen(-1, 0, true)", bank.seen(-1, 0, true), 0);
        Checks.due("first kind", bank.fits(0), 5);
        Checks.due("seen(1, 1, false)", bank.seen(1, 1, false), 1);
        Checks.due("not hard on hard", bank.fits(0), 4);
        Checks.due("from(0, true)", bank.from(0, true), 2);
        Checks.due("none FITS", bank.fits(0), 0);
        Checks.due("untell(2)", bank.untell(2), true);
        Checks.due("untold at the same TIME", bank.fits(0), 4);
        Checks.due("untell(2) again", bank.untell(2), false);
        Checks.due("untell(3)", bank.untell(3), false);
        Checks.due("untell(-1)", bank.untell(-1), false);
        Checks.due("from(0, false)", bank.from(0, false), 3);
        Checks.due("of TOWN 1", bank.fits(0), 4);
        int[][] wrong = {{-2, 0}, {3, 0}, {0, 3}, {0, -1}, {-1, -1}, {Integer.MAX_VALUE, 0}, {0, Integer.MIN_VALUE}};
        for (int[] w : wrong) {
            Checks.due("seen(" + w[0] + ", " + w[1] + ", true)", bank.seen(w[0], w[1], true), -1);
        }
        Checks.due("from(2, true)", bank.from(2, true), -1);
        Checks.due("from(-1, true)", bank.from(-1, true), -1);
        Checks.due("SEEN", bank.about(7), 4);
        bank = Checks.told(ToldTest.SAMPLE);
        bank.seen(0, 0, true);
        Checks.due("kind on kind, by what is told or by the first", bank.fits(0), 13);
        bank.seen(2, 2, false);
        Checks.due("not rest on rest", bank.fits(0), 5);
        Checks.put(bank, ToldTest.SAMPLE);
        bank.river();
        Checks.due("nothing is SEEN of a new RIVER", bank.fits(0), 15);
        Checks.due("nothing to untell", bank.untell(0), false);
        bank.from(1, true);
        Checks.due("nothing behind it to untell", bank.untell(1), false);
        Checks.due("of TOWN 1", bank.fits(0), 12);
    }

    private static void thirty() {
        FarBank bank = Checks.told(ToldTest.SAMPLE);
        for (int i = 0; i < 30; i++) {
            Checks.due("number " + i, i % 2 == 0 ? bank.from(1, true) : bank.seen(-1, 1, false), i);
        }
        Checks.due("seen over 30", bank.seen(-1, 1, false), -1);
        Checks.due("from over 30", bank.from(1, true), -1);
        Checks.due("untell(29)", bank.untell(29), true);
        Checks.due("what is UNTOLD is SEEN still", bank.from(1, true), -1);
        Checks.due("SEEN", bank.about(7), 30);
        Checks.due("fits", bank.fits(0), 12);
    }

    private static void times() {
        FarBank bank = Checks.told(ToldTest.SAMPLE);
        Checks.due("later(0)", bank.later(0), 0);
        Checks.due("later(5)", bank.later(5), 5);
        bank.from(0, true);
        Checks.due("later(3)", bank.later(3), 8);
        bank.from(1, true);
        bank.untell(0);
        Checks.due("later(2)", bank.later(2), 10);
        bank.untell(1);
        int[] want = {15, 15, 15, 15, 15, 3, 3, 3, 12, 12, 15, 15};
        for (int k = 0; k < want.length; k++) {
            Checks.due("fits(" + k + ")", bank.fits(k), want[k]);
        }
        Checks.due("fits(-1)", bank.fits(-1), 15);
        Checks.due("fits at the least", bank.fits(Integer.MIN_VALUE), 15);
        bank.from(0, true);
        Checks.due("fits at the most", bank.fits(Integer.MAX_VALUE), 3);
        Checks.due("later(1001)", bank.later(1001), -1);
        Checks.due("later(-1)", bank.later(-1), -1);
        Checks.due("the TIME", bank.about(8), 10);
        for (int i = 0; i < 99; i++) {
            bank.later(1000);
        }
        Checks.due("later(991)", bank.later(991), -1);
        Checks.due("later(990)", bank.later(990), 100000);
        Checks.due("later(1)", bank.later(1), -1);
        Checks.due("later(0)", bank.later(0), 100000);
    }

    private static void asking() {
        FarBank bank = Checks.told(ToldTest.SAMPLE);
        // At first 0 1 0 2 (two at the most), on hard 1 1 2 2, on kind 0 1 0 0, on rest 0 1 0 2.
        Checks.due("ask(0, 0)", bank.ask(0, 0), -1);
        Checks.due("ask(1, 0)", bank.ask(1, 0), 2);
        bank.seen(-1, 0, true);
        Checks.due("ann or bea: on hard", bank.ask(0, 0), 1);
        Checks.due("one is left", bank.ask(1, 0), 1);
        Checks.due("ask(2, 0)", bank.ask(2, 0), -2);
        Checks.due("ask(-1, 0)", bank.ask(-1, 0), -2);
        Checks.due("nothing counts at -1", bank.ask(1, -1), 2);
        bank.seen(-1, 1, true);
        Checks.due("none FITS", bank.ask(0, 0), -2);
        Checks.due("none FITS", bank.ask(1, 0), -2);
        bank = new FarBank();
        Checks.due("ask of an empty RIVER", bank.ask(0, 0), -2);
        bank = Checks.told("deed a here good 0 there good 0;deed b here good 0 there good 0;person p of 0 first a on a does b;person q of 0 first a on b does b;");
        Checks.due("on a and on b are alike: the first", bank.ask(0, 0), 0);
        Checks.due("one is left", bank.ask(1, 0), 1);
        bank = Checks.told("deed a here good 0 there good 0;person p of 0 first a;");
        Checks.due("none ahead of all", bank.ask(0, 0), -1);
        Checks.due("one is left", bank.ask(1, 0), 1);
    }

    private static void abouts() {
        FarBank bank = Checks.told(ToldTest.SAMPLE);
        bank.elect();
        bank.season();
        bank.undo();
        bank.concord(3);
        bank.seen(-1, 0, true);
        bank.later(4);
        bank.feed(0, 0, 0, 0, 0);
        int[] want = {4, 3, 3, 0, 7, 1, 1, 1, 4, 20, 6, 2};
        for (int what = 0; what < want.length; what++) {
            Checks.due("about(" + what + ")", bank.about(what), want[what]);
        }
        Checks.due("about(12)", bank.about(12), -1);
        Checks.due("about(-1)", bank.about(-1), -1);
        bank.redo();
        Checks.due("about(3)", bank.about(3), 1);
        Checks.due("about(4)", bank.about(4), 30);
    }

    public static void main(String[] args) {
        telling();
        thirty();
        times();
        asking();
        abouts();
        Checks.close("SeenTest");
    }
}
