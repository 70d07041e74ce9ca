/**
 * Two towns on a river, each of which elects, out of its own, who rules over the other one.
 *
 * <p>All rows are made once, in constructors: no call makes an object, so that a long run of
 * calls stays within its room. No call throws: what can't be is answered by NONE, GAP or -2.
 */
public final class FarBank {
    public static final int NONE = -1;
    public static final int GAP = -1000000000;

    private static final int NOTHING = -2;
    private static final int MOST_BYTES = 1600;
    private static final int FED_BYTES = 20;
    private static final int MOST_DEEDS = 5;
    private static final int MOST_PERSONS = 8;
    private static final int MOST_GROUPS = 6;
    private static final int MOST_ACTS = 40;
    private static final int MOST_AHEAD = 60;
    private static final int MOST_PLEAS = 3;
    private static final int MOST_ODDS = 4;
    private static final int MOST_BOXES = 3;
    private static final int LAST_SEASON = 999;

    private final byte[] tape;
    private final Reader reader;
    private final History history;
    private final Ballot ballot;
    private final Course course;
    private final Game game;
    private final Sightings sightings;
    private final State[] boxes;
    private final boolean[] filled;
    private final int[] lying;
    private int fed;
    private int lyingCount;
    private River told;
    private River spare;

    public FarBank() {
        tape = new byte[MOST_BYTES];
        reader = new Reader();
        history = new History();
        ballot = new Ballot();
        course = new Course();
        game = new Game();
        sightings = new Sightings();
        boxes = new State[MOST_BOXES];
        for (int i = 0; i < boxes.length; i++) {
            boxes[i] = new State();
        }
        filled = new boolean[MOST_BOXES];
        lying = new int[MOST_PLEAS];
        told = new River();
        spare = new River();
    }

    // ---- the text

    public int feed(int a, int b, int c, int d, int e) {
        if (fed > MOST_BYTES - FED_BYTES) {
            return NONE;
        }
        putBytes(a);
        putBytes(b);
        putBytes(c);
        putBytes(d);
        putBytes(e);
        return fed;
    }

    private void putBytes(int four) {
        for (int shift = 24; shift >= 0 && fed < tape.length; shift -= 8) {
            tape[fed] = (byte) (four >>> shift);
            fed++;
        }
    }

    public int end(int n) {
        if (n < 0 || n > fed) {
            return NONE;
        }
        fed = n;
        return n;
    }

    public int river() {
        if (!reader.readAll(tape, fed, spare)) {
            return NONE;
        }
        River old = told;
        told = spare;
        spare = old;
        fed = 0;
        lyingCount = 0;
        history.startWith(told.draw);
        sightings.forget();
        for (int i = 0; i < filled.length; i++) {
            filled[i] = false;
        }
        return told.persons;
    }

    public int fault(int what) {
        if (what == 0) {
            return reader.flaw;
        }
        return what == 1 ? reader.place : NONE;
    }

    // ---- what was told, and what is now

    public int deed(int deed, int what) {
        if (!told.hasDeed(deed)) {
            return GAP;
        }
        if (what == 0) {
            return told.worthHere(deed);
        }
        return what == 1 ? told.worthThere(deed) : GAP;
    }

    public int person(int person, int what) {
        if (!told.hasPerson(person)) {
            return NONE;
        }
        switch (what) {
            case 0:
                return told.homeOf(person);
            case 1:
                return told.answerOf(person, NONE);
            case 2:
                return history.now().termsOf(person);
            case 3:
                return history.now().isSpeaker(person) ? 1 : 0;
            default:
                return NONE;
        }
    }

    public int does(int person, int deed) {
        if (deed != NONE && !told.hasDeed(deed)) {
            return NONE;
        }
        return told.answerOf(person, deed);
    }

    public int group(int group, int what) {
        if (!told.hasGroup(group)) {
            return NONE;
        }
        switch (what) {
            case 0:
                return told.groupTown[group];
            case 1:
                return told.many[group];
            case 2:
                return told.pity[group];
            case 3:
                ballot.count(told, history.now());
                return ballot.choiceOf(group);
            default:
                return NONE;
        }
    }

    public int town(int town, int what) {
        if (!isTown(town)) {
            return GAP;
        }
        State now = history.now();
        switch (what) {
            case 0:
                return now.wealOf(town);
            case 1:
                return now.speakerOf(town);
            case 2:
                return now.doneTo(town);
            case 3:
                return now.deedBy(told, town);
            case 4:
                return now.askedOf(town);
            default:
                return GAP;
        }
    }

    public int votes(int person) {
        if (!told.hasPerson(person)) {
            return NONE;
        }
        ballot.count(told, history.now());
        return ballot.tallyOf(person);
    }

    public int elected(int town) {
        if (!isTown(town)) {
            return NONE;
        }
        ballot.count(told, history.now());
        return ballot.winner(told, town);
    }

    // ---- ACTS

    public int elect() {
        ballot.count(told, history.now());
        State next = history.begin();
        int others = 0;
        for (int town = 0; town < 2; town++) {
            if (next.seat(town, ballot.winner(told, town))) {
                others++;
            }
        }
        return others;
    }

    public int force(int person) {
        if (!told.hasPerson(person) || history.now().isSpeaker(person)) {
            return NONE;
        }
        int home = told.homeOf(person);
        int before = history.now().speakerOf(home);
        history.begin().seat(home, person);
        return before == NONE ? NOTHING : before;
    }

    public int drum(int town, int deed) {
        if (!isTown(town) || !told.hasDeed(deed)) {
            return NONE;
        }
        int over = 1 - town;
        State now = history.now();
        if (now.speakerOf(over) == NONE || now.askedOf(over) == deed) {
            return NONE;
        }
        int before = now.deedBy(told, over);
        history.begin().askOf(over, deed);
        return before;
    }

    public int season() {
        if (history.now().seasonNow() >= LAST_SEASON) {
            return NONE;
        }
        return history.begin().pass(told, false) ? 1 : 0;
    }

    public boolean undo() {
        return history.stepBack();
    }

    public boolean redo() {
        return history.stepOn();
    }

    // ---- what lies ahead

    public int will(int town, int n) {
        if (!isTown(town) || n < 0 || n > MOST_AHEAD) {
            return GAP;
        }
        return course.wealBehind(told, history.now(), town, n);
    }

    public int margin(int town, int what) {
        if (!isTown(town) || (what != 0 && what != 1)) {
            return NONE;
        }
        ballot.count(told, history.now());
        int first = ballot.winner(told, town);
        int second = ballot.leader(told, town, first);
        if (first == NONE || second == NONE) {
            return NONE;
        }
        return what == 1 ? second : ballot.tallyOf(first) - ballot.tallyOf(second);
    }

    public int ruin(int town) {
        return isTown(town) ? course.firstBelow(told, history.now(), town) : NONE;
    }

    public int petition(int town, int n) {
        lyingCount = 0;
        if (!isTown(town) || n < 1 || n > MOST_PLEAS || history.now().speakerOf(1 - town) == NONE) {
            return GAP;
        }
        int weal = course.plead(told, history.now(), town, n);
        for (int i = 0; i < n && i < lying.length; i++) {
            lying[i] = course.pleaAt(i);
        }
        lyingCount = n;
        return weal;
    }

    public int sway(int person, int what) {
        if (!told.hasPerson(person) || (what != 0 && what != 1)) {
            return NONE;
        }
        ballot.count(told, history.now());
        int set = ballot.fewestFor(told, person);
        if (set == NONE || what == 1) {
            return set;
        }
        return Integer.bitCount(set);
    }

    // ---- GAMES

    public int pay(int person, int other, int n, int what) {
        if (!told.areRivals(person, other) || n < 0 || n > MOST_AHEAD) {
            return GAP;
        }
        if (what == 0) {
            return game.worthOf(told, person, other, n);
        }
        return what == 1 ? game.worthOf(told, other, person, n) : GAP;
    }

    public int best(int person, int n) {
        if (!told.hasPerson(person) || !isSpan(n)) {
            return NONE;
        }
        return game.bestAgainst(told, person, n);
    }

    public int total(int person, int n) {
        if (!told.hasPerson(person) || !isSpan(n)) {
            return GAP;
        }
        return game.worthOfAll(told, person, n);
    }

    public int champion(int town, int n) {
        if (!isTown(town) || !isSpan(n)) {
            return NONE;
        }
        int best = NONE;
        int most = 0;
        for (int p = 0; p < told.persons; p++) {
            if (told.homeOf(p) == town) {
                int sum = game.worthOfAll(told, p, n);
                if (best == NONE || sum > most) {
                    best = p;
                    most = sum;
                }
            }
        }
        return best;
    }

    public int twins(int person) {
        if (!told.hasPerson(person)) {
            return NONE;
        }
        int set = 0;
        for (int p = 0; p < told.persons; p++) {
            if (told.doAlike(p, person)) {
                set |= 1 << p;
            }
        }
        return set;
    }

    public int rests(int n) {
        lyingCount = 0;
        if (!isSpan(n)) {
            return NONE;
        }
        game.fillTable(told, n);
        int count = 0;
        for (int p = 0; p < told.persons; p++) {
            for (int q = 0; q < told.persons; q++) {
                if (told.homeOf(p) == 0 && told.homeOf(q) == 1 && game.isAtRest(told, p, q)) {
                    if (count == 0) {
                        layPair(p, q);
                    }
                    count++;
                }
            }
        }
        return count;
    }

    public int concord(int n) {
        lyingCount = 0;
        if (!isSpan(n)) {
            return GAP;
        }
        game.fillTable(told, n);
        int most = GAP;
        for (int p = 0; p < told.persons; p++) {
            for (int q = 0; q < told.persons; q++) {
                if (told.homeOf(p) == 0 && told.homeOf(q) == 1) {
                    int both = game.tableAt(p, q) + game.tableAt(q, p);
                    if (both > most) {
                        most = both;
                        layPair(p, q);
                    }
                }
            }
        }
        return most;
    }

    private void layPair(int p, int q) {
        if (lying.length >= 2) {
            lying[0] = p;
            lying[1] = q;
            lyingCount = 2;
        }
    }

    public int round(int person, int other, int what) {
        if (!told.areRivals(person, other) || (what != 0 && what != 1)) {
            return NONE;
        }
        game.findRound(told, person, other);
        return what == 0 ? game.roundFrom : game.roundLong;
    }

    public int mean(int person, int other, int part) {
        if (!told.areRivals(person, other) || (part != 0 && part != 1)) {
            return GAP;
        }
        game.findRound(told, person, other);
        return lowest(game.roundWorth, game.roundLong, part);
    }

    // ---- TREATIES, winters

    public int fair(int what) {
        if (what < 0 || what > 2 || told.deeds == 0) {
            return GAP;
        }
        int zero = NONE;
        int one = NONE;
        for (int d = 0; d < told.deeds; d++) {
            for (int e = 0; e < told.deeds; e++) {
                if (zero == NONE || told.isFairer(d, e, zero, one)) {
                    zero = d;
                    one = e;
                }
            }
        }
        if (what == 2) {
            return Math.min(told.worthOfBoth(zero, one), told.worthOfBoth(one, zero));
        }
        return what == 0 ? zero : one;
    }

    public int holds(int deed, int other, int patience) {
        if (!told.hasDeed(deed) || !told.hasDeed(other) || patience < 0 || patience > MOST_AHEAD) {
            return NONE;
        }
        return told.isKept(deed, other, patience) ? 1 : 0;
    }

    public int treaties(int patience) {
        if (patience < 0 || patience > MOST_AHEAD) {
            return NONE;
        }
        int count = 0;
        for (int d = 0; d < told.deeds; d++) {
            for (int e = 0; e < told.deeds; e++) {
                if (told.isKept(d, e, patience)) {
                    count++;
                }
            }
        }
        return count;
    }

    public int hold(int town, int n) {
        if (!isTown(town) || n < 0 || n > MOST_AHEAD) {
            return NONE;
        }
        return course.neededFor(told, history.now(), town, n);
    }

    public int odds(int n, int part) {
        if (n < 0 || n > MOST_ODDS || (part != 0 && part != 1)) {
            return NONE;
        }
        int upper = 1;
        int lower = 1;
        for (int i = 0; i < n; i++) {
            upper *= 100 - told.winterRate;
            lower *= 100;
        }
        return lowest(upper, lower, part);
    }

    public int feared(int person, int n) {
        if (!told.hasPerson(person) || !isSpan(n)) {
            return NONE;
        }
        int set = 0;
        for (int q = 0; q < told.persons; q++) {
            if (told.areRivals(person, q) && game.worthOf(told, person, q, n) < 0) {
                set |= 1 << q;
            }
        }
        return set;
    }

    public int lies(int i) {
        return i >= 0 && i < lyingCount && i < lying.length ? lying[i] : NOTHING;
    }

    // ---- what is SEEN

    public int seen(int on, int deed, boolean is) {
        if ((on != NONE && !told.hasDeed(on)) || !told.hasDeed(deed)) {
            return NONE;
        }
        return sightings.tell(on, deed, is);
    }

    public int from(int town, boolean is) {
        return isTown(town) ? sightings.tell(Sightings.HOME, town, is) : NONE;
    }

    public boolean untell(int seen) {
        return sightings.takeBack(seen);
    }

    public int later(int by) {
        return sightings.goOn(by);
    }

    public int fits(int k) {
        return sightings.fitting(told, k);
    }

    public int ask(int what, int k) {
        if (what != 0 && what != 1) {
            return NOTHING;
        }
        return sightings.nextToTry(told, k, what);
    }

    // ---- images

    public int image(int box) {
        if (box < 0 || box >= boxes.length || box >= filled.length) {
            return NONE;
        }
        boxes[box].take(history.now());
        filled[box] = true;
        return boxes[box].seasonNow();
    }

    public int back(int box) {
        if (box < 0 || box >= boxes.length || box >= filled.length || !filled[box]) {
            return NONE;
        }
        history.startFrom(boxes[box]);
        return history.now().seasonNow();
    }

    public int about(int what) {
        switch (what) {
            case 0:
                return told.persons;
            case 1:
                return told.deeds;
            case 2:
                return told.groups;
            case 3:
                return history.now().seasonNow();
            case 4:
                return history.now().seedNow();
            case 5:
                return history.actsBehind();
            case 6:
                return history.actsAhead();
            case 7:
                return sightings.count;
            case 8:
                return sightings.time;
            case 9:
                return fed;
            case 10:
                return told.units;
            case 11:
                return lyingCount;
            default:
                return NONE;
        }
    }

    // ---- what all of these share

    private static boolean isTown(int town) {
        return town == 0 || town == 1;
    }

    private static boolean isSpan(int n) {
        return n >= 1 && n <= MOST_AHEAD;
    }

    private static int lowest(int upper, int lower, int part) {
        int a = Math.abs(upper);
        int b = lower;
        // Euclid's steps at least halve the numbers every second time, so 64 are plenty for ints.
        for (int i = 0; i < 64 && a != 0; i++) {
            int rest = b % a;
            b = a;
            a = rest;
        }
        if (b == 0) {
            return 0;
        }
        return part == 0 ? upper / b : lower / b;
    }

    /** The TOKENS of a text, one after the other. */
    private static final class Scan {
        // What sort of TOKEN: a sign is its own byte, a word of the grammar its place in WORDS and 256.
        static final int END = 0;
        static final int BROKEN = 1;
        static final int NAME = 2;
        static final int NUMBER = 3;
        static final int DEED = 256;
        static final int HERE = 257;
        static final int GOOD = 258;
        static final int BAD = 259;
        static final int THERE = 260;
        static final int PERSON = 261;
        static final int OF = 262;
        static final int FIRST = 263;
        static final int ON = 264;
        static final int DOES = 265;
        static final int GROUP = 266;
        static final int MANY = 267;
        static final int PITY = 268;
        static final int VOTE = 269;
        static final int WINTER = 270;
        static final int DRAW = 271;
        static final int OR = 272;
        static final int AND = 273;
        static final int NOT = 274;
        static final int TERMS = 275;
        static final int SEASON = 276;

        private static final int WORD_COUNT = 21;
        private static final String WORDS =
                "deed here good bad there person of first on does group many pity vote winter draw or and not terms season ";
        private static final String SIGNS = ";()<>=+-*/%";
        private static final int LONGEST_WORD = 8;
        private static final int LONGEST_NUMBER = 4;

        private final long[] words = new long[WORD_COUNT];
        private byte[] text;
        private int length;
        private int stop;
        int start;
        int sort;
        int value;
        /** A word's letters by five bits each: two words are the same just if their keys are. */
        long key;

        Scan() {
            long letters = 0;
            int n = 0;
            for (int i = 0; i < WORDS.length(); i++) {
                char c = WORDS.charAt(i);
                if (c != ' ') {
                    letters = letters * 32 + (c - 'a' + 1);
                } else if (n < words.length) {
                    words[n] = letters;
                    letters = 0;
                    n++;
                }
            }
        }

        void open(byte[] bytes, int many) {
            text = bytes;
            length = bytes == null ? 0 : Math.min(many, bytes.length);
            stop = 0;
            step();
        }

        void step() {
            while (stop < length && (text[stop] == 32 || text[stop] == 10)) {
                stop++;
            }
            start = stop;
            if (stop >= length) {
                sort = END;
                return;
            }
            int sign = text[stop];
            if (sign >= 'a' && sign <= 'z') {
                readWord();
            } else if (sign >= '0' && sign <= '9') {
                readNumber();
            } else {
                sort = sign > 0 && SIGNS.indexOf((char) sign) >= 0 ? sign : BROKEN;
                stop++;
            }
        }

        private void readWord() {
            key = 0;
            while (stop < length && text[stop] >= 'a' && text[stop] <= 'z') {
                key = key * 32 + (text[stop] - 'a' + 1);
                stop++;
            }
            if (stop - start > LONGEST_WORD) {
                sort = BROKEN;
                return;
            }
            sort = NAME;
            for (int i = 0; i < words.length; i++) {
                if (words[i] == key) {
                    sort = DEED + i;
                }
            }
        }

        private void readNumber() {
            value = 0;
            while (stop < length && text[stop] >= '0' && text[stop] <= '9') {
                value = value * 10 + (text[stop] - '0');
                stop++;
            }
            boolean letterBehind = stop < length && text[stop] >= 'a' && text[stop] <= 'z';
            sort = letterBehind || stop - start > LONGEST_NUMBER ? BROKEN : NUMBER;
        }
    }

    /** Reads a text into a RIVER, up to its first FAULT. */
    private static final class Reader {
        private static final int NO_TOKEN = 1;
        private static final int MISPLACED = 2;
        private static final int TOLD_TWICE = 3;
        private static final int WRONG_NUMBER = 4;
        private static final int UNKNOWN_DEED = 5;

        // The ranks of the grammar of a vote, from e down to unit.
        private static final int EITHER = 0;
        private static final int BOTH = 1;
        private static final int SINGLE = 2;
        private static final int SUM = 3;
        private static final int TERM = 4;
        private static final int UNIT = 5;

        /** One vote has one e with all units in it, so that the bound of 60 in all is never reached. */
        private static final int MOST_UNITS = 30;
        private static final int MOST_WITHIN = 6;

        private final Scan scan = new Scan();
        private final long[] deedNames = new long[MOST_DEEDS];
        private final long[] personNames = new long[MOST_PERSONS];
        private final long[] groupNames = new long[MOST_GROUPS];
        private boolean voteTold;
        private boolean winterTold;
        private boolean drawTold;
        private int got;
        /** On which DEEDS the PERSON of this line was told to do something, as bits. */
        private int answered;
        int flaw;
        int place = NONE;

        boolean readAll(byte[] text, int length, River into) {
            begin(text, length);
            into.clear();
            boolean fine = true;
            for (int i = 0; i < MOST_BYTES && fine && scan.sort != Scan.END; i++) {
                switch (scan.sort) {
                    case Scan.DEED:
                        fine = readDeed(into);
                        break;
                    case Scan.PERSON:
                        fine = readPerson(into);
                        break;
                    case Scan.GROUP:
                        fine = readGroup(into);
                        break;
                    case Scan.VOTE:
                        fine = readVote(into);
                        break;
                    case Scan.WINTER:
                        fine = readWinter(into);
                        break;
                    case Scan.DRAW:
                        fine = readDraw(into);
                        break;
                    default:
                        fine = stray();
                }
                fine = fine && need(';');
            }
            return fine;
        }

        private void begin(byte[] text, int length) {
            flaw = 0;
            place = NONE;
            voteTold = false;
            winterTold = false;
            drawTold = false;
            scan.open(text, length);
        }

        private boolean readDeed(River into) {
            int d = into.deeds;
            if (d < 0 || d >= MOST_DEEDS) {
                return refuse(MISPLACED);
            }
            scan.step();
            if (!newName(deedNames, d) || !need(Scan.HERE) || !worth()) {
                return false;
            }
            into.here[d] = got;
            if (!need(Scan.THERE) || !worth()) {
                return false;
            }
            into.there[d] = got;
            into.deeds = d + 1;
            return true;
        }

        private boolean worth() {
            boolean bad = scan.sort == Scan.BAD;
            if (!bad && scan.sort != Scan.GOOD) {
                return stray();
            }
            scan.step();
            if (!number(0, 50)) {
                return false;
            }
            got = bad ? -got : got;
            return true;
        }

        private boolean readPerson(River into) {
            int p = into.persons;
            if (p < 0 || p >= MOST_PERSONS) {
                return refuse(MISPLACED);
            }
            scan.step();
            if (!newName(personNames, p) || !need(Scan.OF) || !number(0, 1)) {
                return false;
            }
            into.townOf[p] = got;
            if (!need(Scan.FIRST) || !knownDeed(into)) {
                return false;
            }
            into.startAnswers(p, got);
            answered = 0;
            scan.step();
            for (int i = 0; i <= MOST_DEEDS && scan.sort == Scan.ON; i++) {
                scan.step();
                if (!readAnswer(into, p)) {
                    return false;
                }
            }
            into.persons = p + 1;
            return true;
        }

        private boolean readAnswer(River into, int p) {
            if (!knownDeed(into)) {
                return false;
            }
            int on = got;
            if ((answered >> on & 1) == 1) {
                return refuse(TOLD_TWICE);
            }
            answered |= 1 << on;
            scan.step();
            if (!need(Scan.DOES) || !knownDeed(into)) {
                return false;
            }
            into.tellAnswer(p, on, got);
            scan.step();
            return true;
        }

        private boolean readGroup(River into) {
            int g = into.groups;
            if (g < 0 || g >= MOST_GROUPS) {
                return refuse(MISPLACED);
            }
            scan.step();
            if (!newName(groupNames, g) || !need(Scan.OF) || !number(0, 1)) {
                return false;
            }
            into.groupTown[g] = got;
            if (!need(Scan.MANY) || !number(1, 99)) {
                return false;
            }
            into.many[g] = got;
            into.pity[g] = 0;
            if (scan.sort == Scan.PITY) {
                scan.step();
                if (!number(0, 9)) {
                    return false;
                }
                into.pity[g] = got;
            }
            into.groups = g + 1;
            return true;
        }

        private boolean readVote(River into) {
            if (voteTold) {
                return refuse(MISPLACED);
            }
            voteTold = true;
            scan.step();
            return readPart(into, EITHER, 0);
        }

        private boolean readWinter(River into) {
            if (winterTold) {
                return refuse(MISPLACED);
            }
            winterTold = true;
            scan.step();
            if (!number(0, 100)) {
                return false;
            }
            into.winterRate = got;
            if (!need(Scan.OF) || !number(1, 50)) {
                return false;
            }
            into.winterCost = got;
            return true;
        }

        private boolean readDraw(River into) {
            if (drawTold) {
                return refuse(MISPLACED);
            }
            drawTold = true;
            scan.step();
            if (!number(0, 999)) {
                return false;
            }
            into.draw = got;
            return true;
        }

        /** Goes down by rank, which ends at UNIT, and inward by within, which unit and not refuse in time. */
        private boolean readPart(River into, int rank, int within) {
            if (rank >= UNIT) {
                return readUnit(into, within);
            }
            if (rank == SINGLE && scan.sort == Scan.NOT) {
                return readNot(into, within);
            }
            if (!readPart(into, rank + 1, within)) {
                return false;
            }
            // A one has a single relation at most; the others go on as long as there are units.
            int most = rank == SINGLE ? 1 : MOST_UNITS;
            for (int i = 0; i < most && joins(rank); i++) {
                int sign = scan.sort;
                scan.step();
                if (!readPart(into, rank + 1, within)) {
                    return false;
                }
                into.vote.put(-sign);
            }
            return true;
        }

        private boolean joins(int rank) {
            int sort = scan.sort;
            switch (rank) {
                case EITHER:
                    return sort == Scan.OR;
                case BOTH:
                    return sort == Scan.AND;
                case SINGLE:
                    return sort == '<' || sort == '>' || sort == '=';
                case SUM:
                    return sort == '+' || sort == '-';
                case TERM:
                    return sort == '*' || sort == '/' || sort == '%';
                default:
                    return false;
            }
        }

        private boolean readNot(River into, int within) {
            if (within > MOST_WITHIN) {
                return refuse(MISPLACED);
            }
            scan.step();
            if (!readPart(into, SINGLE, within + 1)) {
                return false;
            }
            into.vote.put(-Scan.NOT);
            return true;
        }

        private boolean readUnit(River into, int within) {
            int sort = scan.sort;
            boolean variable = sort == Scan.HERE || sort == Scan.THERE || sort == Scan.PITY
                    || sort == Scan.TERMS || sort == Scan.SEASON;
            if (!variable && sort != Scan.NUMBER && sort != '(') {
                return stray();
            }
            if (into.units >= MOST_UNITS || (sort == '(' && within > MOST_WITHIN)) {
                return refuse(MISPLACED);
            }
            into.units++;
            int value = scan.value;
            scan.step();
            if (sort == '(') {
                return readPart(into, EITHER, within + 1) && need(')');
            }
            into.vote.put(variable ? -sort : value);
            return true;
        }

        private boolean newName(long[] names, int count) {
            if (scan.sort != Scan.NAME || count < 0 || count >= names.length) {
                return stray();
            }
            for (int i = 0; i < count; i++) {
                if (names[i] == scan.key) {
                    return refuse(TOLD_TWICE);
                }
            }
            names[count] = scan.key;
            scan.step();
            return true;
        }

        /** Stays at the NAME, so that a FAULT of what it is told for has its place. */
        private boolean knownDeed(River into) {
            if (scan.sort != Scan.NAME) {
                return stray();
            }
            for (int i = 0; i < into.deeds && i < deedNames.length; i++) {
                if (deedNames[i] == scan.key) {
                    got = i;
                    return true;
                }
            }
            return refuse(UNKNOWN_DEED);
        }

        private boolean number(int least, int most) {
            if (scan.sort != Scan.NUMBER) {
                return stray();
            }
            if (scan.value < least || scan.value > most) {
                return refuse(WRONG_NUMBER);
            }
            got = scan.value;
            scan.step();
            return true;
        }

        private boolean need(int sort) {
            if (scan.sort != sort) {
                return stray();
            }
            scan.step();
            return true;
        }

        private boolean stray() {
            return refuse(scan.sort == Scan.BROKEN ? NO_TOKEN : MISPLACED);
        }

        private boolean refuse(int why) {
            flaw = why;
            place = scan.start;
            return false;
        }
    }

    /** A vote, unit by unit with its signs behind them: what is not below 0 is a number. */
    private static final class Formula {
        /** 30 units, as many signs that join them, and up to 7 times not ahead of each. */
        private static final int MOST_CODE = 300;
        private static final int MOST_STACK = 40;

        private final int[] code = new int[MOST_CODE];
        private final int[] stack = new int[MOST_STACK];
        private int length;
        private int here;
        private int there;
        private int pity;

        void clear() {
            length = 0;
        }

        void put(int what) {
            if (length < code.length) {
                code[length] = what;
                length++;
            }
        }

        void standFor(int worthHere, int worthThere, int groupPity) {
            here = worthHere;
            there = worthThere;
            pity = groupPity;
        }

        int valueAt(int terms, int season) {
            if (length == 0) {
                return here - there;
            }
            int depth = 0;
            for (int i = 0; i < length; i++) {
                int what = code[i];
                if (what == -Scan.NOT && depth >= 1) {
                    stack[depth - 1] = stack[depth - 1] == 0 ? 1 : 0;
                } else if (isLeaf(what)) {
                    if (depth < stack.length) {
                        stack[depth] = leaf(what, terms, season);
                        depth++;
                    }
                } else if (depth >= 2) {
                    depth--;
                    stack[depth - 1] = join(-what, stack[depth - 1], stack[depth]);
                }
            }
            return stack[0];
        }

        private static boolean isLeaf(int what) {
            return what >= 0 || what == -Scan.HERE || what == -Scan.THERE || what == -Scan.PITY
                    || what == -Scan.TERMS || what == -Scan.SEASON;
        }

        private int leaf(int what, int terms, int season) {
            switch (-what) {
                case Scan.HERE:
                    return here;
                case Scan.THERE:
                    return there;
                case Scan.PITY:
                    return pity;
                case Scan.TERMS:
                    return terms;
                case Scan.SEASON:
                    return season;
                default:
                    return what;
            }
        }

        private static int join(int sign, int a, int b) {
            switch (sign) {
                case '+':
                    return a + b;
                case '-':
                    return a - b;
                case '*':
                    return a * b;
                case '/':
                    return b == 0 ? 0 : a / b;
                case '%':
                    return b == 0 ? 0 : a % b;
                case '<':
                    return a < b ? 1 : 0;
                case '>':
                    return a > b ? 1 : 0;
                case '=':
                    return a == b ? 1 : 0;
                case Scan.AND:
                    return a != 0 && b != 0 ? 1 : 0;
                default:
                    return a != 0 || b != 0 ? 1 : 0;
            }
        }
    }

    /** What a text tells. */
    private static final class River {
        final int[] here = new int[MOST_DEEDS];
        final int[] there = new int[MOST_DEEDS];
        final int[] townOf = new int[MOST_PERSONS];
        private final int[] first = new int[MOST_PERSONS];
        private final int[] answers = new int[MOST_PERSONS * MOST_DEEDS];
        final int[] groupTown = new int[MOST_GROUPS];
        final int[] many = new int[MOST_GROUPS];
        final int[] pity = new int[MOST_GROUPS];
        final Formula vote = new Formula();
        int deeds;
        int persons;
        int groups;
        int units;
        int winterRate;
        int winterCost = 1;
        int draw;

        void clear() {
            vote.clear();
            deeds = 0;
            persons = 0;
            groups = 0;
            units = 0;
            winterRate = 0;
            winterCost = 1;
            draw = 0;
        }

        boolean hasDeed(int d) {
            return d >= 0 && d < deeds && d < MOST_DEEDS;
        }

        boolean hasPerson(int p) {
            return p >= 0 && p < persons && p < MOST_PERSONS;
        }

        boolean hasGroup(int g) {
            return g >= 0 && g < groups && g < MOST_GROUPS;
        }

        int homeOf(int p) {
            return hasPerson(p) ? townOf[p] : NONE;
        }

        boolean areRivals(int p, int q) {
            return hasPerson(p) && hasPerson(q) && townOf[p] != townOf[q];
        }

        int worthHere(int d) {
            return hasDeed(d) ? here[d] : 0;
        }

        int worthThere(int d) {
            return hasDeed(d) ? there[d] : 0;
        }

        private static int cell(int p, int d) {
            return p >= 0 && p < MOST_PERSONS && d >= 0 && d < MOST_DEEDS ? p * MOST_DEEDS + d : 0;
        }

        /** On all of which nothing will be told, a PERSON does his first DEED. */
        void startAnswers(int p, int d) {
            for (int on = 0; on < MOST_DEEDS; on++) {
                tellAnswer(p, on, d);
            }
            if (p >= 0 && p < first.length) {
                first[p] = d;
            }
        }

        void tellAnswer(int p, int on, int d) {
            answers[cell(p, on)] = d;
        }

        /** What a PERSON does on a DEED, and on none. */
        int answerOf(int p, int on) {
            if (!hasPerson(p)) {
                return NONE;
            }
            return hasDeed(on) ? answers[cell(p, on)] : first[p];
        }

        boolean doAlike(int p, int q) {
            for (int d = NONE; d < deeds; d++) {
                if (answerOf(p, d) != answerOf(q, d)) {
                    return false;
                }
            }
            return true;
        }

        /** What a season is worth to the TOWN whose SPEAKER does one DEED while the other DEED is done to it. */
        int worthOfBoth(int own, int done) {
            return worthHere(own) + worthThere(done);
        }

        boolean isFairer(int d, int e, int zero, int one) {
            int a = worthOfBoth(d, e);
            int b = worthOfBoth(e, d);
            int before = worthOfBoth(zero, one);
            int beforeOther = worthOfBoth(one, zero);
            int less = Math.min(a, b);
            int lessBefore = Math.min(before, beforeOther);
            return less > lessBefore || (less == lessBefore && a + b > before + beforeOther);
        }

        boolean isKept(int zero, int one, int patience) {
            return !isTempted(zero, one, patience) && !isTempted(one, zero, patience);
        }

        private boolean isTempted(int own, int done, int patience) {
            int best = worthHere(0);
            int worst = worthThere(0);
            for (int d = 1; d < deeds; d++) {
                best = Math.max(best, worthHere(d));
                worst = Math.min(worst, worthThere(d));
            }
            int keeping = worthOfBoth(own, done) * (patience + 1);
            for (int d = 0; d < deeds; d++) {
                if (d != own && worthOfBoth(d, done) + patience * (best + worst) > keeping) {
                    return true;
                }
            }
            return false;
        }
    }

    /** What is so at one moment: SPEAKERS, WEALS, DEEDS done last and asked for, terms, the season, the SEED. */
    private static final class State {
        private static final int SPEAKER = 0;
        private static final int WEAL = 2;
        private static final int DONE = 4;
        private static final int ASKED = 6;
        private static final int TERMS = 8;
        private static final int SEASON = 16;
        private static final int SEED = 17;
        private static final int SIZE = 18;

        private final int[] cells = new int[SIZE];

        State() {
            wipe(0);
        }

        final void wipe(int seed) {
            for (int i = 0; i < cells.length; i++) {
                cells[i] = 0;
            }
            for (int town = 0; town < 2; town++) {
                cells[SPEAKER + town] = NONE;
                cells[DONE + town] = NONE;
                cells[ASKED + town] = NONE;
            }
            cells[SEED] = seed;
        }

        void take(State other) {
            if (other != null) {
                System.arraycopy(other.cells, 0, cells, 0, SIZE);
            }
        }

        int speakerOf(int town) {
            return isTown(town) ? cells[SPEAKER + town] : NONE;
        }

        int wealOf(int town) {
            return isTown(town) ? cells[WEAL + town] : 0;
        }

        int doneTo(int town) {
            return isTown(town) ? cells[DONE + town] : NONE;
        }

        int askedOf(int town) {
            return isTown(town) ? cells[ASKED + town] : NONE;
        }

        int termsOf(int p) {
            return p >= 0 && p < MOST_PERSONS ? cells[TERMS + p] : 0;
        }

        int seasonNow() {
            return cells[SEASON];
        }

        int seedNow() {
            return cells[SEED];
        }

        boolean isSpeaker(int p) {
            return p != NONE && (cells[SPEAKER] == p || cells[SPEAKER + 1] == p);
        }

        /** Answers whether the SPEAKER is another one than before; who follows is not asked for anything. */
        boolean seat(int town, int p) {
            if (!isTown(town) || cells[SPEAKER + town] == p) {
                return false;
            }
            cells[SPEAKER + town] = p;
            cells[ASKED + town] = NONE;
            return true;
        }

        void askOf(int town, int d) {
            if (isTown(town)) {
                cells[ASKED + town] = d;
            }
        }

        int deedBy(River river, int town) {
            int p = speakerOf(town);
            if (p == NONE) {
                return NONE;
            }
            int asked = askedOf(town);
            return asked != NONE ? asked : river.answerOf(p, doneTo(town));
        }

        /** A SEASON, with a winter as the SEED tells or, if each is to have one, in any case. */
        boolean pass(River river, boolean each) {
            int zero = deedBy(river, 0);
            int one = deedBy(river, 1);
            cells[WEAL] += river.worthOfBoth(zero, one);
            cells[WEAL + 1] += river.worthOfBoth(one, zero);
            cells[DONE] = one;
            cells[DONE + 1] = zero;
            for (int town = 0; town < 2; town++) {
                cells[ASKED + town] = NONE;
                int p = cells[SPEAKER + town];
                if (p >= 0 && p < MOST_PERSONS) {
                    cells[TERMS + p]++;
                }
            }
            cells[SEASON]++;
            cells[SEED] = (cells[SEED] * 137 + 71) % 1000;
            boolean winter = each || cells[SEED] % 100 < river.winterRate;
            if (winter) {
                cells[WEAL] -= river.winterCost;
                cells[WEAL + 1] -= river.winterCost;
            }
            return winter;
        }
    }

    /** The STATE now, those behind it that can come back, and those ahead that were taken back. */
    private static final class History {
        private final State[] states = new State[MOST_ACTS + 1];
        private int at;
        private int top;

        History() {
            for (int i = 0; i < states.length; i++) {
                states[i] = new State();
            }
        }

        State now() {
            return states[at >= 0 && at < states.length ? at : 0];
        }

        void startWith(int seed) {
            at = 0;
            top = 0;
            states[0].wipe(seed);
        }

        void startFrom(State state) {
            at = 0;
            top = 0;
            states[0].take(state);
        }

        /** Makes room for an ACT; what it changes is changed in the STATE that is answered. */
        State begin() {
            State before = now();
            if (at < MOST_ACTS) {
                at++;
            } else {
                dropOldest();
            }
            top = at;
            now().take(before);
            return now();
        }

        private void dropOldest() {
            State oldest = states[0];
            for (int i = 0; i < MOST_ACTS; i++) {
                states[i] = states[i + 1];
            }
            states[MOST_ACTS] = oldest;
        }

        boolean stepBack() {
            if (at <= 0) {
                return false;
            }
            at--;
            return true;
        }

        boolean stepOn() {
            if (at >= top) {
                return false;
            }
            at++;
            return true;
        }

        int actsBehind() {
            return at;
        }

        int actsAhead() {
            return top - at;
        }
    }

    /** For whom each GROUP votes. */
    private static final class Ballot {
        private final int[] choices = new int[MOST_GROUPS];
        private final int[] tally = new int[MOST_PERSONS];

        void count(River river, State state) {
            for (int p = 0; p < MOST_PERSONS; p++) {
                tally[p] = 0;
            }
            for (int g = 0; g < river.groups && g < MOST_GROUPS; g++) {
                int p = favourite(river, state, g);
                choices[g] = p;
                if (p >= 0 && p < MOST_PERSONS) {
                    tally[p] += river.many[g];
                }
            }
        }

        private static int favourite(River river, State state, int g) {
            int best = NONE;
            int most = 0;
            for (int p = 0; p < river.persons; p++) {
                if (river.homeOf(p) == river.groupTown[g]) {
                    int d = river.answerOf(p, NONE);
                    river.vote.standFor(river.worthHere(d), river.worthThere(d), river.pity[g]);
                    int value = river.vote.valueAt(state.termsOf(p), state.seasonNow());
                    if (best == NONE || value > most) {
                        best = p;
                        most = value;
                    }
                }
            }
            return best;
        }

        int choiceOf(int g) {
            return g >= 0 && g < choices.length ? choices[g] : NONE;
        }

        int tallyOf(int p) {
            return p >= 0 && p < tally.length ? tally[p] : 0;
        }

        int winner(River river, int town) {
            return leader(river, town, NONE);
        }

        /** For whom most of a TOWN vote, one PERSON left out. */
        int leader(River river, int town, int without) {
            int best = NONE;
            for (int p = 0; p < river.persons; p++) {
                if (river.homeOf(p) == town && p != without && (best == NONE || tallyOf(p) > tallyOf(best))) {
                    best = p;
                }
            }
            return best;
        }

        /** The fewest GROUPS to be swayed as bits, NONE if all are not enough. */
        int fewestFor(River river, int person) {
            int open = 0;
            for (int g = 0; g < river.groups; g++) {
                if (river.hasGroup(g) && river.groupTown[g] == river.homeOf(person) && choiceOf(g) != person) {
                    open |= 1 << g;
                }
            }
            int best = NONE;
            for (int set = 0; set <= open; set++) {
                boolean fewer = best == NONE || Integer.bitCount(set) < Integer.bitCount(best);
                if ((set & ~open) == 0 && fewer && isEnough(river, person, set)) {
                    best = set;
                }
            }
            return best;
        }

        private boolean isEnough(River river, int person, int set) {
            int own = tallyOf(person);
            for (int g = 0; g < river.groups; g++) {
                own += river.hasGroup(g) && (set >> g & 1) == 1 ? river.many[g] : 0;
            }
            for (int p = 0; p < river.persons; p++) {
                if (p != person && river.homeOf(p) == river.homeOf(person)) {
                    int left = tallyLeft(river, p, set);
                    if (left > own || (left == own && p < person)) {
                        return false;
                    }
                }
            }
            return true;
        }

        private int tallyLeft(River river, int p, int set) {
            int left = tallyOf(p);
            for (int g = 0; g < river.groups; g++) {
                left -= river.hasGroup(g) && (set >> g & 1) == 1 && choiceOf(g) == p ? river.many[g] : 0;
            }
            return left;
        }
    }

    /** SEASONS that lie ahead, gone through on a STATE of its own, nobody voting. */
    private static final class Course {
        private final State trial = new State();
        private final int[] pleas = new int[MOST_PLEAS];
        private final int[] bestPleas = new int[MOST_PLEAS];

        int wealBehind(River river, State now, int town, int n) {
            trial.take(now);
            for (int i = 0; i < n; i++) {
                trial.pass(river, false);
            }
            return trial.wealOf(town);
        }

        int firstBelow(River river, State now, int town) {
            trial.take(now);
            for (int i = 0; i <= MOST_AHEAD; i++) {
                if (trial.wealOf(town) < 0) {
                    return i;
                }
                trial.pass(river, false);
            }
            return NONE;
        }

        int neededFor(River river, State now, int town, int n) {
            trial.take(now);
            int needed = 0;
            for (int i = 0; i < n; i++) {
                trial.pass(river, true);
                needed = Math.max(needed, now.wealOf(town) - trial.wealOf(town));
            }
            return needed;
        }

        /** Tries the PETITIONS in their order, so that of like ones the first stays. */
        int plead(River river, State now, int town, int n) {
            for (int i = 0; i < pleas.length; i++) {
                pleas[i] = NONE;
            }
            int most = 0;
            int fewest = NONE;
            boolean more = true;
            for (int i = 0; i < 1000 && more; i++) {
                int weal = wealByPleas(river, now, town, n);
                int asked = countPleas();
                if (fewest == NONE || weal > most || (weal == most && asked < fewest)) {
                    most = weal;
                    fewest = asked;
                    keepPleas();
                }
                more = nextPleas(river.deeds, n);
            }
            return most;
        }

        int pleaAt(int i) {
            return i >= 0 && i < bestPleas.length ? bestPleas[i] : NONE;
        }

        private int wealByPleas(River river, State now, int town, int n) {
            trial.take(now);
            for (int i = 0; i < n && i < pleas.length; i++) {
                if (pleas[i] != NONE) {
                    trial.askOf(1 - town, pleas[i]);
                }
                trial.pass(river, false);
            }
            return trial.wealOf(town);
        }

        private int countPleas() {
            int count = 0;
            for (int i = 0; i < pleas.length; i++) {
                count += pleas[i] == NONE ? 0 : 1;
            }
            return count;
        }

        private void keepPleas() {
            for (int i = 0; i < pleas.length && i < bestPleas.length; i++) {
                bestPleas[i] = pleas[i];
            }
        }

        private boolean nextPleas(int deeds, int n) {
            for (int i = Math.min(n, pleas.length) - 1; i >= 0; i--) {
                if (pleas[i] < deeds - 1) {
                    pleas[i]++;
                    return true;
                }
                pleas[i] = NONE;
            }
            return false;
        }
    }

    /** GAMES of two PERSONS of different TOWNS. */
    private static final class Game {
        private static final int PAIRS = MOST_DEEDS * MOST_DEEDS;

        private final int[] table = new int[MOST_PERSONS * MOST_PERSONS];
        private final int[] begun = new int[PAIRS];
        private final int[] worthUpTo = new int[PAIRS + 1];
        private int worthOfOther;
        int roundFrom;
        int roundLong = 1;
        int roundWorth;

        /** PAY of the first one's TOWN; that of the other one's is kept beside it. */
        int worthOf(River river, int p, int q, int n) {
            int a = river.answerOf(p, NONE);
            int b = river.answerOf(q, NONE);
            int sum = 0;
            worthOfOther = 0;
            for (int i = 0; i < n; i++) {
                sum += river.worthOfBoth(a, b);
                worthOfOther += river.worthOfBoth(b, a);
                int next = river.answerOf(p, b);
                b = river.answerOf(q, a);
                a = next;
            }
            return sum;
        }

        int worthOfAll(River river, int p, int n) {
            int sum = 0;
            for (int q = 0; q < river.persons; q++) {
                if (river.areRivals(p, q)) {
                    sum += worthOf(river, p, q, n);
                }
            }
            return sum;
        }

        int bestAgainst(River river, int p, int n) {
            int best = NONE;
            int most = 0;
            for (int q = 0; q < river.persons; q++) {
                if (river.areRivals(p, q)) {
                    int sum = worthOf(river, q, p, n);
                    if (best == NONE || sum > most) {
                        best = q;
                        most = sum;
                    }
                }
            }
            return best;
        }

        void fillTable(River river, int n) {
            for (int p = 0; p < river.persons; p++) {
                for (int q = 0; q < p; q++) {
                    if (river.areRivals(p, q)) {
                        table[cell(p, q)] = worthOf(river, p, q, n);
                        table[cell(q, p)] = worthOfOther;
                    }
                }
            }
        }

        private static int cell(int p, int q) {
            boolean inside = p >= 0 && p < MOST_PERSONS && q >= 0 && q < MOST_PERSONS;
            return inside ? p * MOST_PERSONS + q : 0;
        }

        int tableAt(int p, int q) {
            return table[cell(p, q)];
        }

        boolean isAtRest(River river, int p, int q) {
            for (int r = 0; r < river.persons; r++) {
                if (river.areRivals(r, q) && tableAt(r, q) > tableAt(p, q)) {
                    return false;
                }
                if (river.areRivals(r, p) && tableAt(r, p) > tableAt(q, p)) {
                    return false;
                }
            }
            return true;
        }

        /** What both do next hangs on what both did, so the ROUND closes when a pair of DEEDS comes again. */
        void findRound(River river, int p, int q) {
            for (int i = 0; i < begun.length; i++) {
                begun[i] = NONE;
            }
            roundFrom = 0;
            roundLong = 1;
            roundWorth = 0;
            int a = river.answerOf(p, NONE);
            int b = river.answerOf(q, NONE);
            worthUpTo[0] = 0;
            for (int i = 0; i < PAIRS + 1 && river.hasDeed(a) && river.hasDeed(b); i++) {
                int pair = a * MOST_DEEDS + b;
                if (begun[pair] != NONE || i >= PAIRS) {
                    closeRound(begun[pair], i);
                    return;
                }
                begun[pair] = i;
                worthUpTo[i + 1] = worthUpTo[i] + river.worthOfBoth(a, b);
                int next = river.answerOf(p, b);
                b = river.answerOf(q, a);
                a = next;
            }
        }

        private void closeRound(int begin, int behind) {
            if (begin >= 0 && begin < behind && behind < worthUpTo.length) {
                roundFrom = begin;
                roundLong = behind - begin;
                roundWorth = worthUpTo[behind] - worthUpTo[begin];
            }
        }
    }

    /** What is SEEN of one over there, with when it was TOLD and UNTOLD. */
    private static final class Sightings {
        /** Stands in place of a DEED if what is SEEN is of which TOWN he is. */
        static final int HOME = -2;
        private static final int MOST_SEEN = 30;
        private static final int LONGEST_STEP = 1000;
        private static final int LAST_TIME = 100000;

        private final int[] on = new int[MOST_SEEN];
        private final int[] what = new int[MOST_SEEN];
        private final boolean[] so = new boolean[MOST_SEEN];
        private final int[] toldAt = new int[MOST_SEEN];
        private final int[] untoldAt = new int[MOST_SEEN];
        private final int[] parts = new int[MOST_DEEDS];
        int count;
        int time;

        void forget() {
            count = 0;
        }

        int tell(int subject, int thing, boolean is) {
            if (count < 0 || count >= MOST_SEEN) {
                return NONE;
            }
            on[count] = subject;
            what[count] = thing;
            so[count] = is;
            toldAt[count] = time;
            untoldAt[count] = NONE;
            count++;
            return count - 1;
        }

        boolean takeBack(int i) {
            if (i < 0 || i >= count || i >= MOST_SEEN || untoldAt[i] != NONE) {
                return false;
            }
            untoldAt[i] = time;
            return true;
        }

        int goOn(int by) {
            if (by < 0 || by > LONGEST_STEP || time + by > LAST_TIME) {
                return NONE;
            }
            time += by;
            return time;
        }

        int fitting(River river, int k) {
            int set = 0;
            for (int p = 0; p < river.persons; p++) {
                if (isFitting(river, p, k)) {
                    set |= 1 << p;
                }
            }
            return set;
        }

        private boolean isFitting(River river, int p, int k) {
            for (int i = 0; i < count && i < MOST_SEEN; i++) {
                boolean counts = toldAt[i] <= k && (untoldAt[i] == NONE || untoldAt[i] > k);
                int actual = on[i] == HOME ? river.homeOf(p) : river.answerOf(p, on[i]);
                if (counts && (actual == what[i]) != so[i]) {
                    return false;
                }
            }
            return true;
        }

        /** The DEED to try (part 0) or how many it leaves at the most (part 1). */
        int nextToTry(River river, int k, int part) {
            int set = fitting(river, k);
            if (set == 0) {
                return -2;
            }
            int best = NONE;
            int fewest = largestPart(river, set, NONE);
            for (int d = 0; d < river.deeds; d++) {
                int left = largestPart(river, set, d);
                if (left < fewest) {
                    best = d;
                    fewest = left;
                }
            }
            return part == 0 ? best : fewest;
        }

        private int largestPart(River river, int set, int tried) {
            for (int i = 0; i < parts.length; i++) {
                parts[i] = 0;
            }
            int most = 0;
            for (int p = 0; p < river.persons; p++) {
                int d = river.answerOf(p, tried);
                if ((set >> p & 1) == 1 && d >= 0 && d < parts.length) {
                    parts[d]++;
                    most = Math.max(most, parts[d]);
                }
            }
            return most;
        }
    }
}
