/** Promises 13 to 18, 46 and 47: ACTS, taken back and done again, and images. */
public final class ActsTest {
    private static void elections() {
        FarBank bank = Checks.told(ToldTest.SAMPLE);
        Checks.due("elect()", bank.elect(), 2);
        Checks.due("elect() again", bank.elect(), 0);
        Checks.due("both are ACTS", bank.about(5), 2);
        Checks.due("force(1)", bank.force(1), 0);
        Checks.due("elect()", bank.elect(), 1);
        Checks.due("SPEAKER", bank.town(0, 1), 0);
    }

    private static void forces() {
        FarBank bank = Checks.told(ToldTest.SAMPLE);
        Checks.due("force(1)", bank.force(1), -2);
        Checks.due("force(1) again", bank.force(1), -1);
        Checks.due("force(4)", bank.force(4), -1);
        Checks.due("force(-1)", bank.force(-1), -1);
        Checks.due("one ACT", bank.about(5), 1);
        Checks.due("force(0)", bank.force(0), 1);
        Checks.due("force(3)", bank.force(3), -2);
        Checks.due("force(2)", bank.force(2), 3);
        Checks.due("SPEAKER of 0", bank.town(0, 1), 0);
        Checks.due("SPEAKER of 1", bank.town(1, 1), 2);
    }

    private static void drums() {
        FarBank bank = Checks.told(ToldTest.SAMPLE);
        Checks.due("drum where nobody rules", bank.drum(1, 0), -1);
        bank.force(0);
        Checks.due("drum(0, 0): TOWN 0 is ruled by nobody", bank.drum(0, 0), -1);
        Checks.due("drum(1, 2)", bank.drum(1, 2), 0);
        Checks.due("drum(1, 2) again", bank.drum(1, 2), -1);
        Checks.due("drum(1, 1)", bank.drum(1, 1), 2);
        Checks.due("drum(1, 3)", bank.drum(1, 3), -1);
        Checks.due("drum(1, -1)", bank.drum(1, -1), -1);
        Checks.due("drum(2, 1)", bank.drum(2, 1), -1);
        Checks.due("drum(-1, 1)", bank.drum(-1, 1), -1);
        Checks.due("ACTS", bank.about(5), 3);
        Checks.due("asked", bank.town(0, 4), 1);
        Checks.due("would do", bank.town(0, 3), 1);
        bank.elect();
        Checks.due("the same SPEAKER is still asked", bank.town(0, 4), 1);
        bank.force(1);
        Checks.due("who follows is not", bank.town(0, 4), -1);
        bank.force(3);
        bank.drum(0, 1);
        Checks.due("asked of the other one", bank.town(1, 4), 1);
        bank.force(2);
        Checks.due("who follows there is not, either", bank.town(1, 4), -1);
        Checks.due("what was done stays", bank.town(1, 2), -1);
        bank.drum(1, 0);
        Checks.due("elect()", bank.elect(), 1);
        Checks.due("who follows by election is not", bank.town(0, 4), -1);
        bank.drum(1, 1);
        Checks.due("what would be done anyway can be asked for", bank.drum(0, 0), 0);
        bank.season();
        Checks.due("nothing is asked behind a SEASON", bank.town(0, 4), -1);
        Checks.due("nothing is asked behind a SEASON", bank.town(1, 4), -1);
        Checks.due("the asked DEED was done", bank.town(1, 2), 1);
        Checks.due("WEAL of 0: 4 + 5", bank.town(0, 0), 9);
        Checks.due("WEAL of 1: -2 - 6", bank.town(1, 0), -8);
    }

    private static void seasons() {
        FarBank bank = Checks.told(ToldTest.SAMPLE);
        bank.force(1);
        bank.force(2);
        // The SEED: 7, 30, 181, 868, 987, 290, 801, 808, 767.
        int[] winters = {0, 0, 0, 0, 0, 1, 1, 0};
        int[] seeds = {30, 181, 868, 987, 290, 801, 808, 767};
        int[] zero = {9, 14, 19, 24, 29, 31, 33, 38};
        int[] one = {-8, -14, -20, -26, -32, -41, -50, -56};
        for (int i = 0; i < 8; i++) {
            Checks.due("season " + i, bank.season(), winters[i]);
            Checks.due("SEED " + i, bank.about(4), seeds[i]);
            Checks.due("season " + i, bank.about(3), i + 1);
            Checks.due("WEAL of 0 behind " + i, bank.town(0, 0), zero[i]);
            Checks.due("WEAL of 1 behind " + i, bank.town(1, 0), one[i]);
            Checks.due("done to 0", bank.town(0, 2), i == 0 ? 0 : 2);
            Checks.due("done to 1", bank.town(1, 2), 1);
        }
        Checks.due("terms", bank.person(1, 2), 8);
        bank = Checks.told(ToldTest.SAMPLE);
        bank.force(3);
        bank.season();
        Checks.due("done to 0", bank.town(0, 2), 2);
        Checks.due("nobody rules 1", bank.town(1, 2), -1);
        Checks.due("WEAL of 0", bank.town(0, 0), 1);
        Checks.due("WEAL of 1", bank.town(1, 0), 0);
        bank.force(0);
        bank.season();
        // bob saw none done ahead: his first; ann on rest: her first.
        Checks.due("done to 0", bank.town(0, 2), 2);
        Checks.due("done to 1", bank.town(1, 2), 0);
        bank.season();
        Checks.due("on kind bob is kind", bank.town(0, 2), 0);
    }

    private static void winters() {
        FarBank bank = Checks.told("winter 31 of 50;draw 7;");
        Checks.due("30 is less than 31", bank.season(), 1);
        Checks.due("WEAL of 0", bank.town(0, 0), -50);
        Checks.due("WEAL of 1", bank.town(1, 0), -50);
        bank = Checks.told("winter 30 of 50;draw 7;");
        Checks.due("30 is not less than 30", bank.season(), 0);
        bank = Checks.told("winter 100 of 1;draw 116;");
        Checks.due("rest 63", bank.season(), 1);
        bank = Checks.told("winter 0 of 9;draw 117;");
        Checks.due("rest 0", bank.season(), 0);
        Checks.due("SEED", bank.about(4), 100);
    }

    private static void undone() {
        FarBank bank = Checks.told(ToldTest.SAMPLE);
        Checks.due("undo() of nothing", bank.undo(), false);
        Checks.due("redo() of nothing", bank.redo(), false);
        bank.elect();
        bank.drum(0, 2);
        bank.season();
        Checks.due("undo()", bank.undo(), true);
        Checks.due("asked again", bank.town(1, 4), 2);
        Checks.due("WEAL", bank.town(0, 0), 0);
        Checks.due("terms", bank.person(0, 2), 0);
        Checks.due("season", bank.about(3), 0);
        Checks.due("SEED", bank.about(4), 7);
        Checks.due("done", bank.town(0, 2), -1);
        Checks.due("can be undone", bank.about(5), 2);
        Checks.due("can be redone", bank.about(6), 1);
        Checks.due("undo()", bank.undo(), true);
        Checks.due("undo()", bank.undo(), true);
        Checks.due("undo()", bank.undo(), false);
        Checks.due("no SPEAKER", bank.town(0, 1), -1);
        Checks.due("redo()", bank.redo(), true);
        Checks.due("redo()", bank.redo(), true);
        Checks.due("redo()", bank.redo(), true);
        Checks.due("redo()", bank.redo(), false);
        Checks.due("WEAL: -2 + 1", bank.town(0, 0), -1);
        bank.undo();
        bank.undo();
        Checks.due("what does nothing is no ACT", bank.drum(2, 2), -1);
        Checks.due("can be redone", bank.about(6), 2);
        Checks.due("elect() is one, though nothing changes", bank.elect(), 0);
        Checks.due("can't be redone any more", bank.about(6), 0);
        Checks.due("redo()", bank.redo(), false);
    }

    private static void fortyAreKept() {
        FarBank bank = Checks.told(ToldTest.SAMPLE);
        for (int i = 0; i < 45; i++) {
            bank.season();
            Checks.due("ACTS behind season " + i, bank.about(5), Math.min(40, i + 1));
        }
        for (int i = 0; i < 40; i++) {
            Checks.due("undo() " + i, bank.undo(), true);
        }
        Checks.due("undo()", bank.undo(), false);
        Checks.due("the oldest are gone", bank.about(3), 5);
        Checks.due("can be redone", bank.about(6), 40);
        for (int i = 0; i < 40; i++) {
            Checks.due("redo() " + i, bank.redo(), true);
            Checks.due("season", bank.about(3), 6 + i);
        }
        Checks.due("redo()", bank.redo(), false);
    }

    private static void images() {
        FarBank bank = Checks.told(ToldTest.SAMPLE);
        Checks.due("back(0) of an empty BOX", bank.back(0), -1);
        bank.elect();
        bank.season();
        bank.drum(0, 2);
        Checks.due("image(2)", bank.image(2), 1);
        Checks.due("image(3)", bank.image(3), -1);
        Checks.due("image(-1)", bank.image(-1), -1);
        Checks.due("an image is no ACT", bank.about(5), 3);
        bank.season();
        bank.season();
        bank.force(1);
        bank.undo();
        Checks.due("image(0)", bank.image(0), 3);
        Checks.due("back(3)", bank.back(3), -1);
        Checks.due("back(-1)", bank.back(-1), -1);
        Checks.due("back(1)", bank.back(1), -1);
        Checks.due("ACTS stay", bank.about(5), 5);
        Checks.due("back(2)", bank.back(2), 1);
        Checks.due("no ACTS to undo", bank.about(5), 0);
        Checks.due("no ACTS to redo", bank.about(6), 0);
        Checks.due("SPEAKER", bank.town(1, 1), 2);
        Checks.due("asked", bank.town(1, 4), 2);
        Checks.due("done", bank.town(1, 2), 0);
        Checks.due("WEAL", bank.town(0, 0), 3);
        Checks.due("terms", bank.person(0, 2), 1);
        Checks.due("SEED", bank.about(4), 30);
        bank.season();
        Checks.due("back(2) once more", bank.back(2), 1);
        Checks.due("back(0)", bank.back(0), 3);
        Checks.due("terms", bank.person(0, 2), 3);
        Checks.due("image(0) over the old one", bank.image(0), 3);
    }

    public static void main(String[] args) {
        elections();
        forces();
        drums();
        seasons();
        winters();
        undone();
        fortyAreKept();
        images();
        Checks.close("ActsTest");
    }
}
