/** The edges of ==== 4, of the BOXES and of what lies there: rows that are empty and full, TIMES just before, at and behind. */
public final class SeenEdgesTest {
    private static final int NONE = FarBank.NONE;

    // ---- 30 at most

    private static void howMany() {
        FarBank bank = Checks.told(ToldTest.SAMPLE);
        Checks.due("untell(0) of none", bank.untell(0), false);
        for (int i = 0; i < 30; i++) {
            Checks.due("SEEN", bank.about(7), i);
            Checks.due("its number", i % 3 == 0 ? bank.from(0, true) : bank.seen(i % 3 - 2, i % 3, false), i);
            Checks.due("not yet", bank.untell(i + 1), false);
        }
        Checks.due("SEEN", bank.about(7), 30);
        Checks.due("seen(0, 0, true)", bank.seen(0, 0, true), -1);
        Checks.due("from(0, true)", bank.from(0, true), -1);
        Checks.due("SEEN", bank.about(7), 30);
        for (int i = 0; i < 30; i++) {
            Checks.due("untell(" + i + ")", bank.untell(i), true);
            Checks.due("untell(" + i + ") again", bank.untell(i), false);
            Checks.due("no room by that", bank.from(0, true), -1);
        }
        Checks.due("untell(30)", bank.untell(30), false);
        Checks.due("all FIT", bank.fits(0), 15);
        Checks.put(bank, ToldTest.SAMPLE);
        bank.river();
        Checks.due("nothing is SEEN", bank.about(7), 0);
        Checks.due("room again", bank.from(0, true), 0);
        Checks.due("it counts", bank.fits(0), 3);
    }

    // ---- TIMES

    private static void twoTimes() {
        for (int told : new int[] {0, 1, 1000}) {
            for (int more : new int[] {0, 1, 1000}) {
                FarBank bank = Checks.told(ToldTest.SAMPLE);
                bank.later(told);
                bank.from(0, true);
                bank.later(more);
                Checks.due("known at the TIME", bank.fits(bank.about(8)), 3);
                bank.untell(0);
                int untold = told + more;
                for (int k : new int[] {Integer.MIN_VALUE, -1, told - 1, told, told + 1, untold - 1, untold, untold + 1, Integer.MAX_VALUE}) {
                    boolean counts = k >= told && k < untold;
                    Checks.due("fits(" + k + "), TOLD at " + told + ", UNTOLD at " + untold, bank.fits(k), counts ? 3 : 15);
                    Checks.due("ask(1, " + k + ")", bank.ask(1, k), counts ? 1 : 2);
                }
                bank.later(1);
                bank.from(1, true);
                Checks.due("what was then is known still", bank.fits(untold - 1), more == 0 ? 15 : 3);
                Checks.due("later", bank.fits(untold + 1), 12);
            }
        }
    }

    private static void howLate() {
        FarBank bank = new FarBank();
        Checks.due("at first", bank.about(8), 0);
        Checks.due("later(0)", bank.later(0), 0);
        Checks.due("later(1)", bank.later(1), 1);
        Checks.due("later(999)", bank.later(999), 1000);
        Checks.due("later(1000)", bank.later(1000), 2000);
        for (int by : new int[] {1001, -1, Integer.MIN_VALUE, Integer.MAX_VALUE, Integer.MAX_VALUE - 1999, Integer.MAX_VALUE - 2000}) {
            Checks.due("later(" + by + ")", bank.later(by), -1);
            Checks.due("the TIME", bank.about(8), 2000);
        }
        for (int i = 3; i <= 99; i++) {
            Checks.due("later(1000)", bank.later(1000), 1000 * i);
        }
        Checks.due("later(999)", bank.later(999), 99999);
        Checks.due("later(2)", bank.later(2), -1);
        Checks.due("later(1000)", bank.later(1000), -1);
        Checks.due("the TIME", bank.about(8), 99999);
        Checks.due("river", bank.river(), 0);
        Checks.due("the TIME stays", bank.about(8), 99999);
        Checks.due("later(1)", bank.later(1), 100000);
        Checks.due("later(1)", bank.later(1), -1);
        Checks.due("later(0)", bank.later(0), 100000);
        Checks.put(bank, ToldTest.SAMPLE);
        bank.river();
        bank.from(1, true);
        Checks.due("TOLD as late as can be", bank.fits(99999), 15);
        Checks.due("TOLD as late as can be", bank.fits(100000), 12);
        Checks.due("TOLD as late as can be", bank.fits(100001), 12);
        bank.untell(0);
        Checks.due("UNTOLD as late as can be", bank.fits(100000), 15);
    }

    // ---- FITS and ASK

    private static void fits() {
        FarBank bank = new FarBank();
        Checks.due("nobody FITS", bank.fits(0), 0);
        Checks.due("nobody to ASK of", bank.ask(0, 0), -2);
        Checks.due("from(0, true)", bank.from(0, true), 0);
        Checks.due("nobody FITS", bank.fits(0), 0);
        bank = Checks.told(RefusedTest.FULL);
        Checks.due("all eight FIT", bank.fits(0), 255);
        for (int on = NONE; on < 5; on++) {
            for (int d = 0; d < 5; d++) {
                for (int is = 0; is < 2; is++) {
                    bank = Checks.told(RefusedTest.FULL);
                    bank.seen(on, d, is == 1);
                    int want = 0;
                    for (int p = 0; p < 8; p++) {
                        want |= (bank.does(p, on) == d) == (is == 1) ? 1 << p : 0;
                    }
                    Checks.due("fits behind seen(" + on + ", " + d + ", " + is + ")", bank.fits(0), want);
                    asks(bank);
                    bank.from(0, is == 1);
                    Checks.due("and of a TOWN", bank.fits(0), want & (is == 1 ? 15 : 240));
                    asks(bank);
                }
            }
        }
        bank = Checks.told(RefusedTest.FULL);
        bank.from(0, true);
        bank.from(1, true);
        Checks.due("of both TOWNS is nobody", bank.fits(0), 0);
        Checks.due("ask(0, 0)", bank.ask(0, 0), -2);
        Checks.due("ask(1, 0)", bank.ask(1, 0), -2);
        bank.untell(0);
        bank.from(0, false);
        Checks.due("of TOWN 1 by both", bank.fits(0), 240);
    }

    /** The first, none ahead of all, of those by which the fewest are left at the most. */
    private static void asks(FarBank bank) {
        int set = bank.fits(0);
        if (set == 0) {
            Checks.due("ask(0, 0) of nobody", bank.ask(0, 0), -2);
            Checks.due("ask(1, 0) of nobody", bank.ask(1, 0), -2);
            return;
        }
        int best = -2;
        int fewest = 9;
        for (int on = NONE; on < bank.about(1); on++) {
            int most = 0;
            for (int d = 0; d < bank.about(1); d++) {
                int count = 0;
                for (int p = 0; p < bank.about(0); p++) {
                    count += (set >> p & 1) == 1 && bank.does(p, on) == d ? 1 : 0;
                }
                most = Math.max(most, count);
            }
            if (most < fewest) {
                best = on;
                fewest = most;
            }
        }
        Checks.due("ask(0, 0)", bank.ask(0, 0), best);
        Checks.due("ask(1, 0)", bank.ask(1, 0), fewest);
    }

    private static void askTwins() {
        FarBank bank = Checks.told("deed a here good 1 there good 1;deed b here good 1 there good 1;person a of 0 first a;person b of 1 first a;person c of 1 first a on a does a;");
        Checks.due("twins can't be told apart", bank.ask(1, 0), 3);
        Checks.due("none ahead of all", bank.ask(0, 0), NONE);
        bank = Checks.told("deed a here good 1 there good 1;deed b here good 1 there good 1;person a of 0 first a;person b of 1 first a on b does b;");
        Checks.due("the last DEED", bank.ask(0, 0), 1);
        Checks.due("one is left", bank.ask(1, 0), 1);
    }

    // ---- BOXES

    private static void boxes() {
        for (int box = 0; box < 3; box++) {
            FarBank bank = Checks.told(ToldTest.SAMPLE);
            Checks.due("back of an empty one", bank.back(box), -1);
            bank.elect();
            bank.season();
            Checks.due("image", bank.image(box), 1);
            for (int other = 0; other < 3; other++) {
                Checks.due("the others are empty", bank.back(other), other == box ? 1 : -1);
            }
            bank.season();
            Checks.due("image over it", bank.image(box), 2);
            bank.season();
            Checks.due("back to the later one", bank.back(box), 2);
            Checks.due("undo()", bank.undo(), false);
            Checks.due("redo()", bank.redo(), false);
            bank.undo();
            bank.season();
            Checks.due("undo() behind back", bank.undo(), true);
            Checks.due("as it was kept", bank.about(3), 2);
            Checks.due("undo() no further", bank.undo(), false);
            Checks.put(bank, "$");
            bank.river();
            Checks.due("full behind a FAULT", bank.back(box), 2);
            bank.end(0);
            Checks.due("river", bank.river(), 0);
            Checks.due("empty behind a RIVER", bank.back(box), -1);
        }
    }

    /** Only what is so now is kept: what is SEEN, the TIME, the TAPE, what lies there and the BOXES stay as they are. */
    private static void whatStays() {
        FarBank bank = Checks.told(ToldTest.SAMPLE);
        Checks.due("image of the first moment", bank.image(0), 0);
        bank.elect();
        bank.drum(0, 1);
        bank.drum(1, 2);
        bank.season();
        bank.drum(0, 2);
        bank.drum(1, 0);
        bank.image(1);
        bank.from(1, true);
        bank.later(9);
        bank.feed(0, 0, 0, 0, 0);
        bank.petition(0, 2);
        bank.season();
        int[] ahead = now(bank);
        Checks.due("back(1)", bank.back(1), 1);
        int[] want = {4, 3, 3, 1, 30, 0, 0, 1, 9, 20, 6, 2};
        for (int what = 0; what < want.length; what++) {
            Checks.due("about(" + what + ")", bank.about(what), want[what]);
        }
        Checks.due("fits", bank.fits(9), 12);
        Checks.due("WEAL of TOWN 0: 0 here, -6 there", bank.town(0, 0), -6);
        Checks.due("SPEAKER", bank.town(0, 1), 0);
        Checks.due("done", bank.town(0, 2), 1);
        Checks.due("would do", bank.town(0, 3), 0);
        Checks.due("asked", bank.town(0, 4), 0);
        Checks.due("WEAL of TOWN 1: 4 here, 1 there", bank.town(1, 0), 5);
        Checks.due("asked", bank.town(1, 4), 2);
        Checks.due("terms", bank.person(0, 2), 1);
        bank.season();
        int[] again = now(bank);
        for (int i = 0; i < ahead.length; i++) {
            Checks.due("gone on from it, answer " + i, again[i], ahead[i]);
        }
        Checks.due("back(0)", bank.back(0), 0);
        Checks.due("no SPEAKER", bank.town(0, 1), -1);
        Checks.due("SEED", bank.about(4), 7);
        Checks.due("terms", bank.person(0, 2), 0);
        Checks.due("back(1) from there", bank.back(1), 1);
        Checks.due("season", bank.about(3), 1);
    }

    private static int[] now(FarBank bank) {
        return new int[] {bank.about(3), bank.about(4), bank.town(0, 0), bank.town(1, 0), bank.town(0, 1), bank.town(1, 1), bank.town(0, 2), bank.town(1, 2),
            bank.town(0, 4), bank.town(1, 4), bank.person(0, 2), bank.person(2, 2)};
    }

    // ---- what lies there

    private static void lies(FarBank bank, int... want) {
        Checks.due("numbers", bank.about(11), want.length);
        for (int i = 0; i < want.length; i++) {
            Checks.due("lies(" + i + ")", bank.lies(i), want[i]);
        }
        for (int i : new int[] {-1, -2, want.length, want.length + 1, 3, Integer.MIN_VALUE, Integer.MAX_VALUE}) {
            Checks.due("lies(" + i + ")", bank.lies(i), -2);
        }
    }

    private static void whatLies() {
        FarBank bank = Checks.told(ToldTest.SAMPLE);
        lies(bank);
        bank.force(1);
        bank.force(2);
        bank.petition(0, 3);
        lies(bank, -1, 0, 0);
        bank.petition(0, 1);
        lies(bank, -1);
        bank.petition(0, 2);
        lies(bank, -1, 0);
        bank.rests(3);
        lies(bank, 1, 3);
        bank.petition(1, 3);
        lies(bank, 0, 0, 0);
        bank.concord(3);
        lies(bank, 0, 2);
        Checks.put(bank, "$");
        bank.river();
        lies(bank, 0, 2);
        bank.end(0);
        bank.river();
        lies(bank);
    }

    public static void main(String[] args) {
        howMany();
        twoTimes();
        howLate();
        fits();
        askTwins();
        boxes();
        whatStays();
        whatLies();
        Checks.close("SeenEdgesTest");
    }
}
