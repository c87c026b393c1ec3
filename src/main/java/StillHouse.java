/**
 * A house of stills whose kinds come in packs. The document of promises (DOC.md) says what each call answers;
 * the names of classes and constants here are its terms.
 */
public final class StillHouse {

    private static final int BEYOND = -1;
    private static final int NONE = -2;
    private static final int FULL = -3;
    private static final int GONE = -4;
    private static final int FINDINGS = 4;
    /** Answered where there is none of a thing and that is no finding. */
    private static final int NO_SUCH = -7;

    private static final int CALLS = 512;
    private static final int TAPE_BYTES = 800;
    private static final int PACK_BYTES = 700;
    private static final int MOST_KINDS = 40;
    private static final int MOST_PACKS = 12;
    private static final int MOST_KINDS_OF_PACK = 10;
    private static final int MOST_ACTIONS = 60;
    private static final int DEEPEST = 6;
    private static final int MOST_VESSELS = 20;
    private static final int MOST_SIZE = 10000;
    private static final int MOST_HEAT = 100000;
    private static final int MOST_CHARGE = 100000;
    private static final int MOST_A = 999;
    private static final int MOST_TICKS = 400;
    private static final int MOST_UNDER_WAY = 12;

    private static final int HOOKS = 6;
    private static final int CHECK = 0;
    private static final int BEFORE = 1;
    private static final int STEP = 2;
    private static final int AFTER = 3;
    private static final int NOTE = 4;
    private static final int CLOSE = 5;

    private static final int RIGHT_OPEN = 0;
    private static final int RIGHT_GUARDED = 1;
    private static final int RIGHT_PACKAGE = 2;

    private static final int FAULT_TEXT = 1;
    private static final int FAULT_NAME = 2;
    private static final int FAULT_SECOND = 3;
    private static final int FAULT_RIGHT = 4;
    private static final int FAULT_LAST = 5;
    private static final int FAULT_CALL = 6;
    private static final int FAULT_REFUSE = 7;

    /** How a row of actions, a body or a whole act ended; act() answers these numbers. */
    private static final int DONE = 0;
    private static final int REFUSED = 1;
    private static final int FAILED = 2;
    private static final int SPENT = 3;

    private static final int TOO_LITTLE_WATER = 1000;
    private static final int TOO_MUCH_WATER = 1001;
    private static final int TOO_MUCH_HEAT = 1002;
    private static final int LATE_REFUSAL = 2000;

    /** What a record tells of; record() answers these numbers. */
    private static final int OF_ACT = 0;
    private static final int OF_CHARGE = 1;
    private static final int OF_POUR = 2;

    /** What a word is. The words of the grammar are numbered in the order of the three texts below. */
    private static final int END = 0;
    private static final int NO_WORD = 1;
    private static final int NAME = 2;
    private static final int NUMBER = 3;
    private static final int OPENING = 4;
    private static final int CLOSING = 5;
    private static final int SEMICOLON = 6;
    private static final int FIRST_HOOK = 7;
    private static final int FIRST_ACTION = 13;
    private static final int UP = 13;
    private static final int CALL = 14;
    private static final int SAY = 15;
    private static final int ADD = 16;
    private static final int TAKE = 17;
    private static final int WARM = 18;
    private static final int FAIL = 19;
    private static final int REFUSE = 20;
    private static final int LESS = 21;
    private static final int TRY = 22;
    private static final int FIRST_OTHER = 23;
    private static final int PACK = 23;
    private static final int WITH = 24;
    private static final int KIND = 25;
    private static final int UNDER = 26;
    private static final int OPEN = 27;
    private static final int GUARDED = 28;
    private static final int LAST = 29;
    private static final int ELSE = 30;
    private static final int RESCUE = 31;
    private static final int LETTER_A = 32;

    private static final int LONGEST_WORD = 8;
    private static final int LONGEST_NUMBER = 3;
    /** Rows of LONGEST_WORD characters, so that a row's place tells its number. */
    private static final String HOOK_WORDS = "check   before  step    after   note    close   ";
    private static final String ACTION_WORDS =
        "up      call    say     add     take    warm    fail    refuse  less    try     ";
    private static final String OTHER_WORDS =
        "pack    with    kind    under   open    guarded last    else    rescue  a       ";

    /** Stands for the act's own number where an action has a number. */
    private static final int ACTS_NUMBER = -1;

    private final byte[] tape = new byte[TAPE_BYTES];
    private int tapeLength = 0;
    private int faultPlace = -1;
    private final Registry registry = new Registry();
    private final Vessel[] vessels = new Vessel[MOST_VESSELS];
    private int vesselCount = 0;
    private final Run run = new Run();
    private final Entry[] entries = new Entry[CALLS];
    private int entryCount = 0;
    private final int[] findings = new int[FINDINGS + 1];

    public StillHouse() {
        Kind still = new Kind(spell("still"), 0);
        for (int hook = 0; hook < HOOKS; hook++) {
            still.give(new Body(still, hook, rightOfHouse(hook), false, 0));
            addHouseAction(still.bodyOf(hook), SAY, hook);
        }
        registry.settle(still, null, 0, NO_SUCH);

        Kind pot = new Kind(spell("pot"), 0);
        pot.give(new Body(pot, NOTE, RIGHT_PACKAGE, false, 0));
        addHouseAction(pot.bodyOf(NOTE), UP, 0);
        addHouseAction(pot.bodyOf(NOTE), SAY, 14);
        registry.settle(pot, still, 0, NO_SUCH);

        Kind column = new Kind(spell("column"), 0);
        column.give(new Body(column, STEP, RIGHT_GUARDED, true, 0));
        addHouseAction(column.bodyOf(STEP), UP, 0);
        addHouseAction(column.bodyOf(STEP), ADD, 1);
        registry.settle(column, pot, 0, NO_SUCH);
    }

    public int feed(long w, int n) {
        if (n < 1 || n > 8) {
            return tell(BEYOND);
        }
        if (tapeLength + n > tape.length) {
            return tell(FULL);
        }
        for (int i = 0; i < n; i++) {
            tape[tapeLength + i] = (byte) (w >>> (8 * i));
        }
        tapeLength += n;
        return tapeLength;
    }

    public int pack() {
        Reader reader = new Reader();
        Pack draft = reader.readPack(tape, tapeLength);
        tapeLength = 0;
        faultPlace = reader.fault;
        if (faultPlace >= 0) {
            return FAULT_TEXT;
        }
        Checker checker = new Checker(registry, draft);
        checker.checkPack();
        faultPlace = checker.place;
        if (checker.fault != 0) {
            return checker.fault;
        }
        if (!registry.hasRoomFor(draft)) {
            return tell(FULL);
        }
        registry.add(draft);
        return 0;
    }

    public int place() {
        return faultPlace;
    }

    public int retire(int i) {
        Pack known = registry.packAt(i);
        if (known == null) {
            return tell(BEYOND);
        }
        if (known.retired) {
            return 0;
        }
        known.retired = true;
        return 1;
    }

    public int kind(int k, int what) {
        Kind known = registry.kindAt(k);
        if (known == null) {
            return tell(BEYOND);
        }
        switch (what) {
            case 0: return known.home;
            case 1: return known.above == null ? NO_SUCH : known.above.number;
            case 2: return known.pack;
            case 3: return known.hookBits();
            case 4: return known.depth;
            default: return tell(BEYOND);
        }
    }

    public int body(int k, int hook, int what) {
        Kind known = registry.kindAt(k);
        if (known == null || !isHook(hook) || what < 0 || what > 2) {
            return tell(BEYOND);
        }
        Body own = known.bodyOf(hook);
        if (own == null) {
            return tell(NONE);
        }
        if (what == 0) {
            return own.right;
        }
        if (what == 1) {
            return own.last ? 1 : 0;
        }
        return own.actionCount;
    }

    public int overrides(int k, int hook, int j) {
        Kind lower = registry.kindAt(k);
        Kind upper = registry.kindAt(j);
        if (lower == null || upper == null || !isHook(hook)) {
            return tell(BEYOND);
        }
        Body own = lower.bodyOf(hook);
        if (own == null || upper.bodyOf(hook) == null) {
            return tell(NONE);
        }
        return own.standsFor(upper) ? 1 : 0;
    }

    public int chosen(int j, int hook, int k) {
        Kind upper = registry.kindAt(j);
        Kind lower = registry.kindAt(k);
        if (upper == null || lower == null || !isHook(hook)) {
            return tell(BEYOND);
        }
        Body best = lower.choose(upper.bodyOf(hook));
        return best == null ? tell(NONE) : best.kind.number;
    }

    public int resolved(int k, int hook, boolean above) {
        Kind known = registry.kindAt(k);
        if (known == null || !isHook(hook)) {
            return tell(BEYOND);
        }
        Body seen = known.resolve(hook, above ? known.above : known);
        return seen == null ? tell(NONE) : seen.kind.number;
    }

    public int count(int what) {
        switch (what) {
            case 0: return registry.kindCount;
            case 1: return registry.packCount;
            case 2: return vesselCount;
            case 3: return entryCount;
            default: return tell(BEYOND);
        }
    }

    // ---- apparatus, acts

    public int make(int kind, int size) {
        Kind known = registry.kindAt(kind);
        if (known == null || size < 0 || size > MOST_SIZE) {
            return tell(BEYOND);
        }
        Pack from = registry.packAt(known.pack);
        if (from != null && from.retired) {
            return tell(GONE);
        }
        if (vesselCount >= vessels.length) {
            return tell(FULL);
        }
        vessels[vesselCount] = new Vessel(vesselCount, known, size);
        vesselCount++;
        return vesselCount - 1;
    }

    public int charge(int app, int water, int heat) {
        Vessel vessel = vesselAt(app);
        if (vessel == null || water < 0 || water > MOST_CHARGE || heat < 0 || heat > MOST_CHARGE) {
            return tell(BEYOND);
        }
        if (!vessel.hasRoomFor(water, heat) || entryCount >= entries.length) {
            return tell(FULL);
        }
        vessel.water += water;
        vessel.heat += heat;
        enter(new Entry(OF_CHARGE, vessel, null, water, water, 0, heat));
        return vessel.water;
    }

    public int pour(int from, int to, int n) {
        Vessel giver = vesselAt(from);
        Vessel taker = vesselAt(to);
        if (giver == null || taker == null || from == to || n < 1 || n > giver.water) {
            return tell(BEYOND);
        }
        int heat = giver.heatOf(n);
        if (!taker.hasRoomFor(n, heat) || entryCount >= entries.length) {
            return tell(FULL);
        }
        giver.water -= n;
        giver.heat -= heat;
        taker.water += n;
        taker.heat += heat;
        enter(new Entry(OF_POUR, giver, taker, n, 0, n, -heat));
        return heat;
    }

    public int act(int app, int a) {
        Vessel vessel = vesselAt(app);
        Kind root = registry.kindAt(0);
        if (vessel == null || root == null || a < 0 || a > MOST_A) {
            return tell(BEYOND);
        }
        // Only calls behind the 512th can come here with all entries used.
        if (entryCount >= entries.length) {
            return tell(FULL);
        }
        int water = vessel.water;
        int heat = vessel.heat;
        int way = run.follow(root, vessel, a);
        if (way == DONE) {
            enter(new Entry(OF_ACT, vessel, null, a, run.added, run.taken, run.warmed));
        } else {
            vessel.water = water;
            vessel.heat = heat;
        }
        return way;
    }

    public int outcome(int what) {
        switch (what) {
            case 0: return run.number;
            case 1: return run.bodyCount;
            case 2: return run.toldCount;
            case 3: return run.ticks;
            default: return tell(BEYOND);
        }
    }

    public int ran(int i, int what) {
        if (i < 0 || i >= run.bodyCount || i >= run.ranKind.length) {
            return tell(BEYOND);
        }
        switch (what) {
            case 0: return run.ranKind[i];
            case 1: return run.ranHook[i];
            case 2: return run.ranUnderWay[i];
            default: return tell(BEYOND);
        }
    }

    public int said(int i) {
        if (i < 0 || i >= run.toldCount || i >= run.told.length) {
            return tell(BEYOND);
        }
        return run.told[i];
    }

    public int apparatus(int app, int what) {
        Vessel vessel = vesselAt(app);
        if (vessel == null) {
            return tell(BEYOND);
        }
        switch (what) {
            case 0: return vessel.kind.number;
            case 1: return vessel.size;
            case 2: return vessel.water;
            case 3: return vessel.heat;
            default: return tell(BEYOND);
        }
    }

    public long all(int what) {
        switch (what) {
            case 0: return sumOfVessels(false);
            case 1: return sumOfEntries(OF_CHARGE, Entry.WATER_IN);
            case 2: return sumOfEntries(OF_ACT, Entry.WATER_IN);
            case 3: return sumOfEntries(OF_ACT, Entry.WATER_OUT);
            case 4: return sumOfVessels(true);
            case 5: return sumOfEntries(OF_CHARGE, Entry.HEAT_IN);
            case 6: return sumOfEntries(OF_ACT, Entry.HEAT_IN);
            default: return tell(BEYOND);
        }
    }

    public int record(int i, int what) {
        if (i < 0 || i >= entryCount || i >= entries.length || entries[i] == null) {
            return tell(BEYOND);
        }
        switch (what) {
            case 0: return entries[i].what;
            case 1: return entries[i].vessel.number;
            case 2: return entries[i].n;
            default: return tell(BEYOND);
        }
    }

    public int undo() {
        if (entryCount < 1 || entryCount > entries.length || entries[entryCount - 1] == null) {
            return tell(NONE);
        }
        entryCount--;
        entries[entryCount].takeBack();
        entries[entryCount] = null;
        return entryCount;
    }

    public int found(int finding) {
        if (finding > BEYOND || finding < GONE) {
            return tell(BEYOND);
        }
        return findings[-finding];
    }

    /** Every finding is answered through here, so that found() counts it. */
    private int tell(int finding) {
        if (finding <= BEYOND && finding >= GONE) {
            findings[-finding]++;
        }
        return finding;
    }

    private void enter(Entry entry) {
        if (entryCount < entries.length) {
            entries[entryCount] = entry;
            entryCount++;
        }
    }

    private Vessel vesselAt(int app) {
        return app >= 0 && app < vesselCount && app < vessels.length ? vessels[app] : null;
    }

    private long sumOfVessels(boolean heat) {
        long sum = 0;
        for (int i = 0; i < vesselCount && i < vessels.length; i++) {
            sum += heat ? vessels[i].heat : vessels[i].water;
        }
        return sum;
    }

    /** Summed over what is recorded, so that what was taken back never counts. */
    private long sumOfEntries(int what, int part) {
        long sum = 0;
        for (int i = 0; i < entryCount && i < entries.length; i++) {
            if (entries[i].what == what) {
                sum += entries[i].partOf(part);
            }
        }
        return sum;
    }

    private static boolean isHook(int hook) {
        return hook >= 0 && hook < HOOKS;
    }

    private static int rightOfHouse(int hook) {
        if (hook == CHECK || hook == CLOSE) {
            return RIGHT_OPEN;
        }
        return hook == NOTE ? RIGHT_PACKAGE : RIGHT_GUARDED;
    }

    private static void addHouseAction(Body body, int what, int number) {
        if (body == null) {
            return;
        }
        Action action = new Action(what, 0);
        action.number = number;
        if (body.first == null) {
            body.first = action;
        } else {
            body.first.next = action;
        }
        body.actionCount++;
    }

    private static long spell(String text) {
        long spelling = 0;
        for (int i = 0; i < text.length(); i++) {
            spelling = spelledOn(spelling, text.charAt(i));
        }
        return spelling;
    }

    /** Five bits a letter: a name of up to 8 letters is one number, and names are compared by it. */
    private static long spelledOn(long spelling, int letter) {
        return spelling * 32 + (letter - 'a' + 1);
    }

    /** A word on the tape, and the one behind it. */
    private static final class Word {
        final int what;
        final int place;
        final int size;
        /** A number's value, or a name's spelling. */
        final long value;
        Word next = null;

        Word(int what, int place, int size, long value) {
            this.what = what;
            this.place = place;
            this.size = size;
            this.value = value;
        }

        /** The chain of words up to the tape's end or to the first place where no word can begin. */
        static Word chainOf(byte[] tape, int length) {
            Word first = null;
            Word latest = null;
            int at = 0;
            boolean more = true;
            for (int i = 0; i <= length && more; i++) {
                Word word = wordAt(tape, length, behindBlanks(tape, length, at));
                if (latest == null) {
                    first = word;
                } else {
                    latest.next = word;
                }
                latest = word;
                at = word.place + word.size;
                more = word.what != END && word.what != NO_WORD;
            }
            return first;
        }

        private static int behindBlanks(byte[] tape, int length, int from) {
            int at = from;
            while (at < length && (tape[at] == 10 || tape[at] == 32)) {
                at++;
            }
            return at;
        }

        private static Word wordAt(byte[] tape, int length, int at) {
            if (at >= length) {
                return new Word(END, length, 0, 0);
            }
            switch (tape[at]) {
                case '{': return new Word(OPENING, at, 1, 0);
                case '}': return new Word(CLOSING, at, 1, 0);
                case ';': return new Word(SEMICOLON, at, 1, 0);
                default: break;
            }
            if (isLetter(tape[at])) {
                return lettersAt(tape, length, at);
            }
            return isFigure(tape[at]) ? figuresAt(tape, length, at) : new Word(NO_WORD, at, 1, 0);
        }

        private static Word lettersAt(byte[] tape, int length, int at) {
            int size = 0;
            long spelling = 0;
            while (at + size < length && isLetter(tape[at + size])) {
                spelling = spelledOn(spelling, tape[at + size]);
                size++;
            }
            int what = size > LONGEST_WORD ? NO_WORD : lettersAre(tape, at, size);
            return new Word(what, at, size, spelling);
        }

        private static Word figuresAt(byte[] tape, int length, int at) {
            int size = 0;
            long value = 0;
            while (at + size < length && isFigure(tape[at + size])) {
                value = value * 10 + (tape[at + size] - '0');
                size++;
            }
            return new Word(size > LONGEST_NUMBER ? NO_WORD : NUMBER, at, size, value);
        }

        private static int lettersAre(byte[] tape, int at, int size) {
            int row = rowOf(HOOK_WORDS, tape, at, size);
            if (row >= 0) {
                return FIRST_HOOK + row;
            }
            row = rowOf(ACTION_WORDS, tape, at, size);
            if (row >= 0) {
                return FIRST_ACTION + row;
            }
            row = rowOf(OTHER_WORDS, tape, at, size);
            return row >= 0 ? FIRST_OTHER + row : NAME;
        }

        private static int rowOf(String rows, byte[] tape, int at, int size) {
            for (int i = 0; i < rows.length() / LONGEST_WORD; i++) {
                if (isRow(rows, i * LONGEST_WORD, tape, at, size)) {
                    return i;
                }
            }
            return -1;
        }

        private static boolean isRow(String rows, int from, byte[] tape, int at, int size) {
            for (int i = 0; i < LONGEST_WORD && from + i < rows.length(); i++) {
                int letter = i < size && at + i < tape.length ? tape[at + i] : ' ';
                if (rows.charAt(from + i) != letter) {
                    return false;
                }
            }
            return true;
        }

        private static boolean isLetter(int c) {
            return c >= 'a' && c <= 'z';
        }

        private static boolean isFigure(int c) {
            return c >= '0' && c <= '9';
        }
    }

    /**
     * Reads a pack's text. Once a fault is found nothing more is taken, so the first one stays and its place
     * need not be looked at behind every word.
     */
    private static final class Reader {
        /** The place of the first fault, or -1. */
        int fault = -1;
        private Word now = new Word(END, 0, 0, 0);

        Pack readPack(byte[] tape, int length) {
            Pack pack = new Pack();
            if (length > PACK_BYTES || length > tape.length) {
                fault = PACK_BYTES;
                return pack;
            }
            Word first = Word.chainOf(tape, length);
            if (first != null) {
                now = first;
            }
            take(PACK);
            pack.name = take(NAME);
            if (sees(WITH)) {
                take(WITH);
                pack.joins = true;
                pack.withPlace = now.place;
                pack.withName = take(NAME);
            }
            take(OPENING);
            pack.add(readKind());
            for (int i = 1; i < MOST_KINDS_OF_PACK && sees(KIND); i++) {
                pack.add(readKind());
            }
            take(CLOSING);
            take(END);
            return pack;
        }

        private Kind readKind() {
            take(KIND);
            int place = now.place;
            Kind kind = new Kind(take(NAME), place);
            take(UNDER);
            kind.underPlace = now.place;
            kind.underName = take(NAME);
            take(OPENING);
            // A body takes bytes, so there can't be more bodies than bytes.
            for (int i = 0; i < PACK_BYTES && beginsBody(); i++) {
                readBody(kind);
            }
            take(CLOSING);
            return kind;
        }

        private void readBody(Kind kind) {
            int right = RIGHT_PACKAGE;
            if (sees(OPEN)) {
                take(OPEN);
                right = RIGHT_OPEN;
            } else if (sees(GUARDED)) {
                take(GUARDED);
                right = RIGHT_GUARDED;
            }
            boolean last = sees(LAST);
            if (last) {
                take(LAST);
            }
            int place = now.place;
            Body body = new Body(kind, takeHook(), right, last, place);
            body.first = readBlock(body, 1);
            kind.give(body);
        }

        private Action readBlock(Body body, int depth) {
            if (depth > DEEPEST) {
                spoil();
                return null;
            }
            take(OPENING);
            Action first = null;
            Action latest = null;
            for (int i = 0; i < MOST_ACTIONS && body.actionCount < MOST_ACTIONS && beginsAction(); i++) {
                Action action = readAction(body, depth);
                if (latest == null) {
                    first = action;
                } else {
                    latest.next = action;
                }
                latest = action;
            }
            take(CLOSING);
            return first;
        }

        private Action readAction(Body body, int depth) {
            Action action = new Action(now.what, now.place);
            body.actionCount++;
            take(action.what);
            switch (action.what) {
                case LESS:
                    action.number = takeNumber();
                    action.inner = readBlock(body, depth + 1);
                    if (sees(ELSE)) {
                        take(ELSE);
                        action.other = readBlock(body, depth + 1);
                    }
                    return action;
                case TRY:
                    action.inner = readBlock(body, depth + 1);
                    take(RESCUE);
                    action.other = readBlock(body, depth + 1);
                    return action;
                case UP:
                    break;
                case CALL:
                    action.place = now.place;
                    action.number = takeHook();
                    break;
                default:
                    action.number = takeNumber();
                    break;
            }
            take(SEMICOLON);
            return action;
        }

        private int takeNumber() {
            if (sees(LETTER_A)) {
                take(LETTER_A);
                return ACTS_NUMBER;
            }
            return (int) take(NUMBER);
        }

        private int takeHook() {
            if (!seesFrom(FIRST_HOOK, HOOKS)) {
                spoil();
                return CHECK;
            }
            int what = now.what;
            take(what);
            return what - FIRST_HOOK;
        }

        private boolean beginsBody() {
            return seesFrom(FIRST_HOOK, HOOKS) || seesFrom(OPEN, LAST - OPEN + 1);
        }

        private boolean beginsAction() {
            return seesFrom(FIRST_ACTION, FIRST_OTHER - FIRST_ACTION);
        }

        private boolean sees(int what) {
            return fault < 0 && now.what == what;
        }

        private boolean seesFrom(int first, int many) {
            return fault < 0 && now.what >= first && now.what < first + many;
        }

        private long take(int what) {
            long value = now.value;
            if (fault < 0 && now.what != what) {
                fault = now.place;
            }
            if (fault < 0 && now.next != null) {
                now = now.next;
            }
            return value;
        }

        private void spoil() {
            if (fault < 0) {
                fault = now.place;
            }
        }
    }

    /** Looks for the faults behind the text's own, in the order of their places; the first one is kept. */
    private static final class Checker {
        int fault = 0;
        int place = -1;
        private final Registry registry;
        private final Pack pack;

        Checker(Registry registry, Pack pack) {
            this.registry = registry;
            this.pack = pack;
        }

        void checkPack() {
            pack.home = pack.joins ? registry.homeNamed(pack.withName) : registry.packages + 1;
            if (pack.home < 0) {
                blame(FAULT_NAME, pack.withPlace);
            }
            for (int i = 0; i < pack.kindCount && i < pack.kinds.length && fault == 0; i++) {
                checkKind(pack.kinds[i], i);
            }
        }

        private void checkKind(Kind kind, int ahead) {
            if (kindNamed(kind.name, ahead) != null) {
                blame(FAULT_NAME, kind.namePlace);
                return;
            }
            Kind above = kindNamed(kind.underName, ahead);
            if (above == null) {
                blame(FAULT_NAME, kind.underPlace);
                return;
            }
            kind.settle(registry.kindCount + ahead, above, pack.home, registry.packCount);
            for (Body body = kind.firstRead; body != null && fault == 0; body = body.next) {
                checkBody(body);
                checkActions(body, body.first, 1);
            }
        }

        private Kind kindNamed(long name, int ahead) {
            Kind known = registry.kindNamed(name);
            for (int i = 0; i < ahead && i < pack.kinds.length && known == null; i++) {
                if (pack.kinds[i].name == name) {
                    known = pack.kinds[i];
                }
            }
            return known;
        }

        private void checkBody(Body body) {
            if (body.kind.bodyOf(body.hook) != body) {
                blame(FAULT_SECOND, body.place);
                return;
            }
            boolean overLast = false;
            boolean narrower = false;
            for (Kind kind = body.kind.above; kind != null; kind = kind.above) {
                Body upper = kind.bodyOf(body.hook);
                if (upper != null && body.standsFor(kind)) {
                    overLast |= upper.last;
                    narrower |= body.right > upper.right;
                }
            }
            if (overLast) {
                blame(FAULT_LAST, body.place);
            } else if (narrower) {
                blame(FAULT_RIGHT, body.place);
            }
        }

        private void checkActions(Body body, Action first, int depth) {
            if (depth > DEEPEST) {
                return;
            }
            for (Action action = first; action != null && fault == 0; action = action.next) {
                checkAction(body, action);
                checkActions(body, action.inner, depth + 1);
                checkActions(body, action.other, depth + 1);
            }
        }

        private void checkAction(Body body, Action action) {
            Kind own = body.kind;
            if (action.what == UP && own.resolve(body.hook, own.above) == null) {
                blame(FAULT_CALL, action.place);
            }
            if (action.what == CALL && own.resolve(action.number, own) == null) {
                blame(FAULT_CALL, action.place);
            }
            if (action.what == REFUSE && body.hook != CHECK) {
                blame(FAULT_REFUSE, action.place);
            }
        }

        private void blame(int number, int at) {
            if (fault == 0) {
                fault = number;
                place = at;
            }
        }
    }

    /** The kinds and packs that are there. */
    private static final class Registry {
        final Kind[] kinds = new Kind[MOST_KINDS];
        int kindCount = 0;
        final Pack[] packs = new Pack[MOST_PACKS];
        int packCount = 0;
        int packages = 0;

        Kind kindAt(int k) {
            return k >= 0 && k < kindCount && k < kinds.length ? kinds[k] : null;
        }

        Pack packAt(int i) {
            return i >= 0 && i < packCount && i < packs.length ? packs[i] : null;
        }

        Kind kindNamed(long name) {
            for (int i = 0; i < kindCount && i < kinds.length; i++) {
                if (kinds[i].name == name) {
                    return kinds[i];
                }
            }
            return null;
        }

        /** The package that a pack joins with a name, or -1; a pack that is named house never hides the house. */
        int homeNamed(long name) {
            if (name == spell("house")) {
                return 0;
            }
            for (int i = Math.min(packCount, packs.length) - 1; i >= 0; i--) {
                if (packs[i].name == name) {
                    return packs[i].home;
                }
            }
            return -1;
        }

        boolean hasRoomFor(Pack pack) {
            return packCount < packs.length && kindCount + pack.kindCount <= kinds.length;
        }

        void add(Pack pack) {
            if (!hasRoomFor(pack)) {
                return;
            }
            for (int i = 0; i < pack.kindCount && i < pack.kinds.length; i++) {
                append(pack.kinds[i]);
            }
            packs[packCount] = pack;
            packCount++;
            packages = Math.max(packages, pack.home);
        }

        void settle(Kind kind, Kind above, int home, int pack) {
            kind.settle(kindCount, above, home, pack);
            append(kind);
        }

        private void append(Kind kind) {
            if (kindCount < kinds.length) {
                kinds[kindCount] = kind;
                kindCount++;
            }
        }
    }

    private static final class Pack {
        long name = 0;
        boolean joins = false;
        long withName = 0;
        int withPlace = 0;
        int home = 0;
        boolean retired = false;
        final Kind[] kinds = new Kind[MOST_KINDS_OF_PACK];
        int kindCount = 0;

        void add(Kind kind) {
            if (kindCount < kinds.length) {
                kinds[kindCount] = kind;
                kindCount++;
            }
        }
    }

    private static final class Kind {
        final long name;
        final int namePlace;
        long underName = 0;
        int underPlace = 0;
        int number = 0;
        Kind above = null;
        /** Its package ('package' is no name in Java). */
        int home = 0;
        int pack = NO_SUCH;
        int depth = 0;
        /** In the order of the text, second bodies of a hook too: the checks tell of those. */
        Body firstRead = null;
        private Body latestRead = null;
        private final Body[] bodies = new Body[HOOKS];

        Kind(long name, int namePlace) {
            this.name = name;
            this.namePlace = namePlace;
        }

        void give(Body body) {
            if (latestRead == null) {
                firstRead = body;
            } else {
                latestRead.next = body;
            }
            latestRead = body;
            if (isHook(body.hook) && bodies[body.hook] == null) {
                bodies[body.hook] = body;
            }
        }

        Body bodyOf(int hook) {
            return hook >= 0 && hook < bodies.length ? bodies[hook] : null;
        }

        int hookBits() {
            int bits = 0;
            for (int hook = 0; hook < HOOKS; hook++) {
                if (bodies[hook] != null) {
                    bits |= 1 << hook;
                }
            }
            return bits;
        }

        /** The kinds above are settled ahead of those under them, so what they override is known here. */
        void settle(int number, Kind above, int home, int pack) {
            this.number = number;
            this.above = above;
            this.home = home;
            this.pack = pack;
            depth = above == null ? 0 : above.depth + 1;
            for (int hook = 0; hook < HOOKS; hook++) {
                if (bodies[hook] != null) {
                    bodies[hook].overridden = overriddenOf(hook);
                }
            }
        }

        private long overriddenOf(int hook) {
            long overridden = 0;
            for (Kind kind = above; kind != null; kind = kind.above) {
                Body upper = kind.bodyOf(hook);
                if (upper != null && (maySee(upper) || (overridden & kind.bit()) != 0)) {
                    overridden |= kind.bit() | upper.overridden;
                }
            }
            return overridden;
        }

        long bit() {
            return 1L << number;
        }

        private boolean maySee(Body upper) {
            return upper.right != RIGHT_PACKAGE || upper.kind.home == home;
        }

        /** RESOLVED with this kind as start, ABOVE with the kind above it. */
        Body resolve(int hook, Kind start) {
            for (Kind kind = start; kind != null; kind = kind.above) {
                Body body = kind.bodyOf(hook);
                if (body != null && (kind == this || maySee(body))) {
                    return body;
                }
            }
            return null;
        }

        /**
         * CHOSEN for a body and this kind; null if this kind is neither the body's own nor under it, as then neither
         * the body nor one that overrides it is met on the way up.
         */
        Body choose(Body wanted) {
            if (wanted == null) {
                return null;
            }
            for (Kind kind = this; kind != null; kind = kind.above) {
                Body body = kind.bodyOf(wanted.hook);
                if (body != null && (body == wanted || body.standsFor(wanted.kind))) {
                    return body;
                }
            }
            return null;
        }
    }

    private static final class Body {
        final Kind kind;
        final int hook;
        final int right;
        final boolean last;
        final int place;
        Action first = null;
        int actionCount = 0;
        /** A bit for each kind whose body of this hook it overrides. */
        long overridden = 0;
        Body next = null;

        Body(Kind kind, int hook, int right, boolean last, int place) {
            this.kind = kind;
            this.hook = hook;
            this.right = right;
            this.last = last;
            this.place = place;
        }

        /** Whether it overrides that kind's body of its hook. */
        boolean standsFor(Kind upper) {
            return (overridden & upper.bit()) != 0;
        }
    }

    private static final class Action {
        final int what;
        int place;
        /** N, or ACTS_NUMBER; of call the hook. */
        int number = 0;
        Action inner = null;
        /** What stands behind else or rescue. */
        Action other = null;
        Action next = null;

        Action(int what, int place) {
            this.what = what;
            this.place = place;
        }
    }

    private static final class Vessel {
        final int number;
        final Kind kind;
        final int size;
        int water = 0;
        int heat = 0;

        Vessel(int number, Kind kind, int size) {
            this.number = number;
            this.kind = kind;
            this.size = size;
        }

        boolean hasRoomFor(int moreWater, int moreHeat) {
            return water + moreWater <= size && heat + moreHeat <= MOST_HEAT;
        }

        int heatOf(int part) {
            return water == 0 ? 0 : (int) ((long) heat * part / water);
        }
    }

    /** A record: what came and went, which is enough to take it back. */
    private static final class Entry {
        static final int WATER_IN = 0;
        static final int WATER_OUT = 1;
        static final int HEAT_IN = 2;

        final int what;
        final Vessel vessel;
        /** Where poured water and heat went; null of an act or a charge. */
        final Vessel taker;
        final int n;
        private final int waterIn;
        private final int waterOut;
        private final int heatIn;

        Entry(int what, Vessel vessel, Vessel taker, int n, int waterIn, int waterOut, int heatIn) {
            this.what = what;
            this.vessel = vessel;
            this.taker = taker;
            this.n = n;
            this.waterIn = waterIn;
            this.waterOut = waterOut;
            this.heatIn = heatIn;
        }

        int partOf(int part) {
            if (part == WATER_IN) {
                return waterIn;
            }
            return part == WATER_OUT ? waterOut : heatIn;
        }

        void takeBack() {
            vessel.water += waterOut - waterIn;
            vessel.heat -= heatIn;
            if (taker != null) {
                taker.water -= waterOut - waterIn;
                taker.heat += heatIn;
            }
        }
    }

    /** An act under way, and then the tale of the latest one. */
    private static final class Run {
        int number = 0;
        int bodyCount = 0;
        int toldCount = 0;
        int ticks = 0;
        int added = 0;
        int taken = 0;
        int warmed = 0;
        /** Each body but the template's own six is run by an action, and each action is a tick. */
        final int[] ranKind = new int[MOST_TICKS + HOOKS];
        final int[] ranHook = new int[MOST_TICKS + HOOKS];
        final int[] ranUnderWay = new int[MOST_TICKS + HOOKS];
        final int[] told = new int[MOST_TICKS];
        private Vessel vessel = null;
        private int a = 0;
        private boolean checking = false;

        /** The house's template. What it answers is how the act ended; the caller takes water and heat back. */
        int follow(Kind root, Vessel vessel, int a) {
            begin(vessel, a);
            checking = true;
            int way = runChosen(root.bodyOf(CHECK), 0);
            checking = false;
            if (way == REFUSED) {
                return way;
            }
            for (int hook = BEFORE; hook <= NOTE && way == DONE; hook++) {
                way = runChosen(root.bodyOf(hook), 0);
            }
            int first = number;
            int closing = way == SPENT ? SPENT : runChosen(root.bodyOf(CLOSE), 0);
            if (closing != SPENT && way == FAILED) {
                closing = FAILED;
                number = first;
            }
            // A failure that was rescued has left its number behind.
            if (closing != FAILED) {
                number = 0;
            }
            return closing;
        }

        private void begin(Vessel vessel, int a) {
            this.vessel = vessel;
            this.a = a;
            number = 0;
            bodyCount = 0;
            toldCount = 0;
            ticks = 0;
            added = 0;
            taken = 0;
            warmed = 0;
        }

        private int runChosen(Body wanted, int underWay) {
            return runBody(vessel.kind.choose(wanted), underWay);
        }

        private int runBody(Body body, int underWay) {
            if (underWay >= MOST_UNDER_WAY || bodyCount >= ranKind.length) {
                return SPENT;
            }
            if (body == null) {
                return DONE;
            }
            ranKind[bodyCount] = body.kind.number;
            ranHook[bodyCount] = body.hook;
            ranUnderWay[bodyCount] = underWay;
            bodyCount++;
            return runActions(body, body.first, underWay + 1, 1);
        }

        private int runActions(Body body, Action first, int underWay, int depth) {
            int way = depth > DEEPEST ? SPENT : DONE;
            for (Action action = first; action != null && way == DONE; action = action.next) {
                if (ticks >= MOST_TICKS) {
                    return SPENT;
                }
                ticks++;
                way = runAction(body, action, underWay, depth);
            }
            return way;
        }

        private int runAction(Body body, Action action, int underWay, int depth) {
            int n = action.number == ACTS_NUMBER ? a : action.number;
            switch (action.what) {
                case UP: return runBody(body.kind.resolve(body.hook, body.kind.above), underWay);
                case CALL: return runChosen(body.kind.resolve(action.number, body.kind), underWay);
                case SAY: return sayNumber(n);
                case ADD: return addWater(n);
                case TAKE: return takeWater(n);
                case WARM: return addHeat(n);
                case FAIL: return failWith(n);
                case REFUSE: return refuseWith(n);
                case LESS: return runActions(body, a < n ? action.inner : action.other, underWay, depth + 1);
                case TRY:
                    int way = runActions(body, action.inner, underWay, depth + 1);
                    return way == FAILED ? runActions(body, action.other, underWay, depth + 1) : way;
                default: return DONE;
            }
        }

        private int sayNumber(int n) {
            if (toldCount < told.length) {
                told[toldCount] = n;
                toldCount++;
            }
            return DONE;
        }

        private int addWater(int n) {
            if (!vessel.hasRoomFor(n, 0)) {
                return failWith(TOO_MUCH_WATER);
            }
            vessel.water += n;
            added += n;
            return DONE;
        }

        private int takeWater(int n) {
            if (n > vessel.water) {
                return failWith(TOO_LITTLE_WATER);
            }
            vessel.water -= n;
            taken += n;
            return DONE;
        }

        private int addHeat(int n) {
            if (!vessel.hasRoomFor(0, n)) {
                return failWith(TOO_MUCH_HEAT);
            }
            vessel.heat += n;
            warmed += n;
            return DONE;
        }

        private int failWith(int n) {
            number = n;
            return FAILED;
        }

        private int refuseWith(int n) {
            if (!checking) {
                return failWith(n + LATE_REFUSAL);
            }
            number = n;
            return REFUSED;
        }
    }
}
