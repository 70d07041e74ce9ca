import java.util.ArrayList;
import java.util.List;

/**
 * All that can be asked of an object without changing it, so that two objects can be held against each other.
 * It takes some 320 calls, so that with what came ahead an object stays within its 512.
 */
final class Picture {
    private Picture() {
    }

    /** What an image keeps, terms aside, and how many ACTS there are. */
    private static List<Integer> kept(FarBank bank) {
        List<Integer> all = new ArrayList<>();
        for (int what = 3; what <= 6; what++) {
            all.add(bank.about(what));
        }
        for (int what = 0; what <= 4; what++) {
            all.add(bank.town(0, what));
            all.add(bank.town(1, what));
        }
        return all;
    }

    private static List<Integer> moment(FarBank bank) {
        List<Integer> all = kept(bank);
        for (int what : new int[] {0, 1, 2, 7, 8, 9, 10, 11}) {
            all.add(bank.about(what));
        }
        for (int p = 0; p < 8; p++) {
            all.add(bank.person(p, 2));
        }
        for (int i = -1; i <= 3; i++) {
            all.add(bank.lies(i));
        }
        return all;
    }

    private static List<Integer> told(FarBank bank) {
        List<Integer> all = new ArrayList<>();
        for (int d = 0; d <= 5; d++) {
            all.add(bank.deed(d, 0));
            all.add(bank.deed(d, 1));
        }
        for (int p = 0; p <= 8; p++) {
            all.add(bank.person(p, 0));
            for (int d = -1; d <= 4; d++) {
                all.add(bank.does(p, d));
            }
        }
        for (int g = 0; g <= 6; g++) {
            for (int what = 0; what <= 3; what++) {
                all.add(bank.group(g, what));
            }
        }
        for (int k = -1; k < 12; k++) {
            all.add(bank.fits(k));
        }
        all.add(bank.fits(Integer.MAX_VALUE));
        all.add(bank.odds(1, 0));
        all.add(bank.odds(1, 1));
        all.add(bank.hold(0, 1));
        all.add(bank.will(1, 60));
        return all;
    }

    private static void alike(String what, List<Integer> got, List<Integer> want) {
        Checks.due(what + ", answers", got.size(), want.size());
        for (int i = 0; i < want.size(); i++) {
            Checks.due(what + ", answer " + i, got.get(i), want.get(i));
        }
    }

    /** Holds two objects against each other: now, through REDO and UNDO, by their BOXES, SEEN and TAPES. */
    static void same(String label, FarBank got, FarBank want) {
        alike(label + ": now", moment(got), moment(want));
        alike(label + ": told", told(got), told(want));
        for (int i = 0; i < 3; i++) {
            Checks.due(label + ": redo " + i, got.redo(), want.redo());
        }
        alike(label + ": behind redo", kept(got), kept(want));
        for (int i = 0; i < 41; i++) {
            Checks.due(label + ": undo " + i, got.undo(), want.undo());
        }
        alike(label + ": behind undo", kept(got), kept(want));
        for (int box = 0; box < 3; box++) {
            Checks.due(label + ": back(" + box + ")", got.back(box), want.back(box));
            alike(label + ": behind back(" + box + ")", kept(got), kept(want));
        }
        for (int seen = 0; seen < 31; seen += 6) {
            Checks.due(label + ": untell(" + seen + ")", got.untell(seen), want.untell(seen));
        }
        Checks.due(label + ": SEEN and UNTOLD", got.fits(Integer.MAX_VALUE), want.fits(Integer.MAX_VALUE));
        Checks.due(label + ": what is on the TAPE", got.river(), want.river());
        Checks.due(label + ": FAULT", got.fault(0), want.fault(0));
        Checks.due(label + ": its place", got.fault(1), want.fault(1));
        alike(label + ": the new RIVER", moment(got), moment(want));
    }
}
