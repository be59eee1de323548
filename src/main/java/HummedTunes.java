import java.util.NoSuchElementException;

/** Tunes in the hills: each belongs to whoever was the last to leave off humming it. */
public final class HummedTunes {
    public static final int NONE = -1;

    private static final int MAX_PEOPLE = 8;
    private static final int MAX_TUNES = 6;
    private static final int MAX_BREATH = 20;
    private static final int MAX_REST = 9;
    private static final int MAX_PLACE = 30;
    private static final int MAX_COWS = 9;
    private static final int MAX_AIR = 9;
    private static final int MAX_EARSHOT = 30;
    private static final int EARSHOT_UNTOLD = 5;
    private static final int MAX_TEXT = 700;
    private static final int BYTES_FED = 20;
    private static final int MAX_ACTS = 40;
    private static final int MAX_ACT_HOURS = 20;
    private static final int MAX_HOUR = 999;
    private static final int MAX_AHEAD = 60;
    private static final int MAX_IDLE = 99;
    private static final int MAX_SEEN = 8;
    private static final int MAX_SEEN_HOURS = 20;
    private static final int LOOK_HOURS = 5;
    private static final int GAME_HOURS = 8;
    private static final int THUNDER_HOURS = 5;
    private static final int TENTHS = 10;

    private static final int REFUSED_TEXTS = 0;
    private static final int REFUSED_ACTS = 1;
    private static final int REFUSED_SIGHTS = 2;
    private static final int STATUSES = 3;

    /* A state in one row: the HOUR, then PLACE, COWS, TUNE, hummed and idle HOURS, then OWNERS. */
    private static final int ROW = 1 + 5 * MAX_PEOPLE + MAX_TUNES;

    /* Cells of a rule's code: 0 to 9999 are NUMBERS, from VALUE on VALUES, below 0 what is done. */
    private static final int VALUE = 10000;
    private static final int ADD = -1;
    private static final int SUBTRACT = -2;
    private static final int MULTIPLY = -3;
    private static final int DIVIDE = -4;
    private static final int LESS = -5;
    private static final int SAME = -6;
    private static final int NOT = -7;
    private static final int AND = -8;
    private static final int OR = -9;

    private static final int VALUES = 6;

    private static final int STOPS = 0;
    private static final int JOINS = 1;
    private static final int RULES = 2;

    private final Reader reader;
    private final Facts facts;
    private final Scene now;
    private final Scene trial;
    private final Hearing hearing;
    private final Ways ways;
    private final Book book;
    private final Book kept;
    private boolean isKept;
    private final int[] unlike;
    private final int[] gains;

    public HummedTunes() {
        reader = new Reader();
        facts = new Facts();
        Reckoner reckoner = new Reckoner();
        now = new Scene(facts, reckoner);
        trial = new Scene(facts, reckoner);
        hearing = new Hearing(facts, now);
        ways = new Ways(facts, now);
        book = new Book();
        kept = new Book();
        isKept = false;
        unlike = new int[MAX_PEOPLE];
        gains = new int[8];
        facts.clear();
        now.begin();
    }

    // ---- the text

    public int feed(int a, int b, int c, int d, int e) {
        if (reader.tapeLength + BYTES_FED > MAX_TEXT) {
            return NONE;
        }
        reader.putBytes(a);
        reader.putBytes(b);
        reader.putBytes(c);
        reader.putBytes(d);
        reader.putBytes(e);
        return reader.tapeLength;
    }

    public int hills(int n) throws IllegalArgumentException {
        mustFit(n >= 0 && n <= reader.tapeLength);
        if (!reader.read(n)) {
            book.refuse(REFUSED_TEXTS);
            return reader.fault;
        }
        facts.copyFrom(reader.out);
        now.begin();
        book.acts = 0;
        book.seen = 0;
        isKept = false;
        return 0;
    }

    public int fault() {
        return reader.faultPlace;
    }

    // ---- what is

    public int count(int what) throws NoSuchElementException {
        mustExist(isWhat(what, 15));
        switch (what) {
            case 0:
                return facts.people;
            case 1:
                return facts.tunes;
            case 2:
                return now.hour;
            case 3:
                return facts.earshot;
            case 4:
                return now.allHummers();
            case 5:
                return now.ownedBy(NONE);
            case 6:
                return hearing.parts();
            case 7:
                return hearing.fewestHeardByAll();
            case 8:
                return now.allCows();
            case 9:
                return book.acts;
            case 10:
                return book.seen;
            case 11:
                return reader.tapeLength;
            default:
                return book.refusals(what - 12);
        }
    }

    public int person(int person, int what) throws NoSuchElementException {
        mustExist(isPerson(person) && isWhat(what, 10));
        switch (what) {
            case 0:
                return facts.breath[person];
            case 1:
                return facts.rest[person];
            case 2:
                return now.place[person];
            case 3:
                return now.cows[person];
            case 4:
                return now.tuneOf[person];
            case 5:
                return now.hummed[person];
            case 6:
                return now.ownedBy(person);
            case 7:
                return now.isRested(person) ? 1 : 0;
            case 8:
                return now.heard[person];
            default:
                return facts.whistles[person] ? 1 : 0;
        }
    }

    public int tune(int tune, int what) throws NoSuchElementException {
        mustExist(isTune(tune) && isWhat(what, 3));
        switch (what) {
            case 0:
                return facts.air[tune];
            case 1:
                return now.owner[tune];
            default:
                return now.hummers[tune];
        }
    }

    // ---- ACTS

    public int hours(int many) {
        if (many < 1 || many > MAX_ACT_HOURS || now.hour + many > MAX_HOUR) {
            return refuseAct();
        }
        book.keepBefore(now);
        now.passHours(many);
        return now.hour;
    }

    public int hush(int person) throws NoSuchElementException {
        mustExist(isPerson(person));
        int tune = now.tuneOf[person];
        if (tune == NONE) {
            return refuseAct();
        }
        book.keepBefore(now);
        now.quiet(person);
        return tune;
    }

    public int cough(int tune) throws NoSuchElementException {
        mustExist(isTune(tune));
        int who = now.hummers[tune];
        if (who == 0) {
            return refuseAct();
        }
        book.keepBefore(now);
        now.quietAll(tune);
        return who;
    }

    public int sell(int tune, int person) throws NoSuchElementException {
        mustExist(isTune(tune) && isPerson(person));
        int seller = now.owner[tune];
        if (seller == NONE || now.hummers[tune] != 0 || seller == person || now.cows[person] == 0) {
            return refuseAct();
        }
        book.keepBefore(now);
        now.giveTo(tune, person);
        now.cows[person]--;
        now.cows[seller]++;
        return seller;
    }

    public int go(int person, int place) throws NoSuchElementException {
        mustExist(isPerson(person));
        int was = now.place[person];
        if (place < 0 || place > MAX_PLACE || place == was) {
            return refuseAct();
        }
        book.keepBefore(now);
        now.putAt(person, place);
        return was;
    }

    public int undo() {
        return book.takeBack(now) ? book.acts : NONE;
    }

    private int refuseAct() {
        book.refuse(REFUSED_ACTS);
        return NONE;
    }

    // ---- what will be, if only HOURS go by

    public int then(int person, int hours, int what) throws NoSuchElementException, IllegalArgumentException {
        mustExist(isPerson(person) && isWhat(what, 3));
        mustFit(isWithin(hours, 0, MAX_AHEAD));
        startTrial();
        trial.passHours(hours);
        switch (what) {
            case 0:
                return trial.tuneOf[person];
            case 1:
                return trial.hummed[person];
            default:
                return trial.howManyOwned(person);
        }
    }

    public int whose(int tune, int hours, int what) throws NoSuchElementException, IllegalArgumentException {
        mustExist(isTune(tune) && isWhat(what, 2));
        mustFit(isWithin(hours, 0, MAX_AHEAD));
        startTrial();
        trial.passHours(hours);
        return what == 0 ? trial.owner[tune] : trial.hummers[tune];
    }

    public int gets(int person, int tune) throws NoSuchElementException {
        mustExist(isPerson(person) && isTune(tune));
        startTrial();
        for (int hour = 0; hour <= MAX_AHEAD; hour++) {
            if (trial.owner[tune] == person) {
                return hour;
            }
            trial.passHour();
        }
        return NONE;
    }

    public int silent(int tune, int hours) throws NoSuchElementException, IllegalArgumentException {
        mustExist(isTune(tune));
        mustFit(isWithin(hours, 1, MAX_AHEAD));
        startTrial();
        int silence = 0;
        for (int hour = 1; hour <= hours; hour++) {
            trial.passHour();
            if (trial.hummers[tune] == 0) {
                silence++;
            }
        }
        return silence;
    }

    public int loudest(int hours) throws IllegalArgumentException {
        mustFit(isWithin(hours, 1, MAX_AHEAD));
        startTrial();
        int best = NONE;
        int most = NONE;
        for (int hour = 1; hour <= hours; hour++) {
            trial.passHour();
            int loud = Integer.bitCount(trial.allHummers());
            if (loud > most) {
                most = loud;
                best = hour;
            }
        }
        return best;
    }

    public int later(int hours, int what) throws NoSuchElementException, IllegalArgumentException {
        mustExist(isWhat(what, 2));
        mustFit(isWithin(hours, 0, MAX_AHEAD));
        startTrial();
        trial.passHours(hours);
        return what == 0 ? richest() : trial.taken;
    }

    private int richest() {
        int best = NONE;
        int most = NONE;
        for (int person = 0; person < facts.people; person++) {
            int owned = trial.howManyOwned(person);
            if (owned > most) {
                most = owned;
                best = person;
            }
        }
        return best;
    }

    // ---- who hears whom

    public int hums(int person, int other) throws NoSuchElementException {
        mustExist(isPerson(person) && isPerson(other));
        return hearing.steps(person, other);
    }

    public int farthest(int person) throws NoSuchElementException {
        mustExist(isPerson(person));
        return hearing.mostStepsFrom(person);
    }

    // ---- what one could do

    public int toBreathe(int person, int tune, int hours) throws NoSuchElementException, IllegalArgumentException {
        mustExist(isPerson(person) && isTune(tune));
        mustFit(isWithin(hours, 1, MAX_AHEAD));
        for (int breath = 1; breath <= MAX_BREATH; breath++) {
            startTrial();
            trial.breath[person] = breath;
            trial.passHours(hours);
            if (trial.owner[tune] == person) {
                return breath;
            }
        }
        return NONE;
    }

    public int toStand(int person, int hours, int what) throws NoSuchElementException, IllegalArgumentException {
        mustExist(isPerson(person) && isWhat(what, 2));
        mustFit(isWithin(hours, 1, MAX_AHEAD));
        int best = NONE;
        int most = NONE;
        for (int place = 0; place <= MAX_PLACE; place++) {
            startTrial();
            trial.putAt(person, place);
            int owned = trial.ownedBehind(person, hours);
            if (owned > most) {
                most = owned;
                best = place;
            }
        }
        return what == 0 ? best : most;
    }

    public int toHush(int person, int hours) throws NoSuchElementException, IllegalArgumentException {
        mustExist(isPerson(person));
        mustFit(isWithin(hours, 1, MAX_AHEAD));
        return bestToSilence(now.allHummers(), false, person, hours);
    }

    public int without(int person, int hours) throws NoSuchElementException, IllegalArgumentException {
        mustExist(isPerson(person));
        mustFit(isWithin(hours, 1, MAX_AHEAD));
        return bestToSilence(~(1 << person), true, person, hours);
    }

    /** Of some (bits) the one by whose HUSHING or leaving now a PERSON would OWN most; NONE: not more. */
    private int bestToSilence(int some, boolean forGood, int person, int hours) {
        startTrial();
        int most = trial.ownedBehind(person, hours);
        int best = NONE;
        for (int other = 0; other < facts.people; other++) {
            if ((some >> other & 1) == 1) {
                startTrial();
                trial.quiet(other);
                trial.left = forGood ? other : NONE;
                int owned = trial.ownedBehind(person, hours);
                if (owned > most) {
                    most = owned;
                    best = other;
                }
            }
        }
        return best;
    }

    public int round(int i) throws NoSuchElementException {
        ways.find();
        mustExist(i >= NONE && i < ways.length);
        return i == NONE ? ways.least : ways.best[i];
    }

    // ---- whose breath was another

    public int see(int person, int tune, int hours) throws NoSuchElementException {
        mustExist(isPerson(person));
        boolean fits = (tune == NONE || isTune(tune)) && isWithin(hours, 1, MAX_SEEN_HOURS);
        if (!fits || !book.addSight(person, tune, hours)) {
            book.refuse(REFUSED_SIGHTS);
            return NONE;
        }
        return book.seen;
    }

    public int deep(int what) throws NoSuchElementException {
        mustExist(isWhat(what, 3));
        if (what == 2) {
            startTrial();
            return trialAgrees() ? 1 : 0;
        }
        int many = 0;
        int first = NONE;
        for (int person = 0; person < facts.people; person++) {
            for (int breath = 1; breath <= MAX_BREATH; breath++) {
                if (startTrialWith(person, breath) && trialAgrees()) {
                    many++;
                    if (first == NONE) {
                        first = 100 * person + breath;
                    }
                }
            }
        }
        return what == 0 ? many : first;
    }

    public int look(int what) throws NoSuchElementException {
        mustExist(isWhat(what, 2));
        gatherUnlike();
        int best = NONE;
        int most = 0;
        for (int person = 0; person < facts.people; person++) {
            int many = Integer.bitCount(unlike[person]);
            if (many > most) {
                most = many;
                best = person;
            }
        }
        return what == 0 ? best : most;
    }

    public void forget() {
        book.seen = 0;
    }

    /** For each person the TUNES (bit 0: nothing) that all other breaths which agree lead to. */
    private void gatherUnlike() {
        for (int person = 0; person < MAX_PEOPLE; person++) {
            unlike[person] = 0;
        }
        for (int person = 0; person < facts.people; person++) {
            for (int breath = 1; breath <= MAX_BREATH; breath++) {
                if (startTrialWith(person, breath) && trialAgrees()) {
                    startTrialWith(person, breath);
                    trial.passHours(LOOK_HOURS);
                    addUnlike();
                }
            }
        }
    }

    private void addUnlike() {
        for (int person = 0; person < facts.people; person++) {
            unlike[person] |= 1 << (trial.tuneOf[person] + 1);
        }
    }

    /** False: one has that breath. */
    private boolean startTrialWith(int person, int breath) {
        startTrial();
        trial.breath[person] = breath;
        return breath != facts.breath[person];
    }

    private boolean trialAgrees() {
        int last = book.lastSight();
        for (int hour = 1; hour <= last; hour++) {
            trial.passHour();
            if (!book.sightsAgree(trial, hour)) {
                return false;
            }
        }
        return true;
    }

    // ---- thunder, a game, years

    public int thunder(int person, int tune, int hours, int tenths) throws NoSuchElementException, IllegalArgumentException {
        mustExist(isPerson(person) && isTune(tune));
        mustFit(isWithin(hours, 1, THUNDER_HOURS) && isWithin(tenths, 0, TENTHS));
        int likely = 0;
        for (int claps = 0; claps < 1 << hours; claps++) {
            int weight = passThunder(claps, hours, tenths);
            if (trial.owner[tune] == person) {
                likely += weight;
            }
        }
        return likely;
    }

    /** Lets HOURS go by with a CLAP ahead of each whose bit is set; answers how likely that is. */
    private int passThunder(int claps, int hours, int tenths) {
        startTrial();
        int weight = 1;
        for (int hour = 0; hour < hours; hour++) {
            boolean clap = (claps >> hour & 1) == 1;
            weight *= clap ? tenths : TENTHS - tenths;
            if (clap) {
                trial.clap();
            }
            trial.passHour();
        }
        return weight;
    }

    public int game(int person, int other, int what) throws NoSuchElementException, IllegalArgumentException {
        mustExist(isPerson(person) && isPerson(other) && isWhat(what, 2));
        mustFit(person != other);
        int last = now.tuneOf[person] == NONE ? 0 : 1;
        int otherLast = now.tuneOf[other] == NONE ? 0 : 1;
        for (int couple = 0; couple < 4; couple++) {
            playCouple(person, other, couple);
        }
        int many = 0;
        int first = NONE;
        for (int mine = 0; mine <= last; mine++) {
            for (int theirs = 0; theirs <= otherLast; theirs++) {
                if (coupleRests(2 * mine + theirs, last, otherLast)) {
                    many++;
                    if (first == NONE) {
                        first = 10 * mine + theirs;
                    }
                }
            }
        }
        return what == 0 ? many : first;
    }

    /** A couple is 2 by the first one's choice, and the other one's. */
    private void playCouple(int person, int other, int couple) {
        startTrial();
        int hushed = (couple >> 1 & 1) << person | (couple & 1) << other;
        // The order counts where just these two hum one TUNE: whoever is HUSHED later OWNS it.
        for (int next = 0; next < facts.people; next++) {
            if ((hushed >> next & 1) == 1) {
                trial.quiet(next);
            }
        }
        trial.passHours(GAME_HOURS);
        int mine = trial.howManyOwned(person);
        int theirs = trial.howManyOwned(other);
        gains[couple] = 4 * mine - theirs;
        gains[4 + couple] = 4 * theirs - mine;
    }

    private boolean coupleRests(int couple, int last, int otherLast) {
        boolean rests = last == 0 || gains[couple ^ 2] <= gains[couple];
        boolean otherRests = otherLast == 0 || gains[4 + (couple ^ 1)] <= gains[4 + couple];
        return rests && otherRests;
    }

    public int years(int seed, int n, int what) throws NoSuchElementException, IllegalArgumentException {
        mustExist(isWhat(what, 3));
        mustFit(isWithin(n, 0, MAX_AHEAD));
        startTrial();
        int next = seed;
        for (int hour = 0; hour < n; hour++) {
            next = drawChance(next);
            trial.passHour();
        }
        switch (what) {
            case 0:
                return trial.taken;
            case 1:
                return trial.howManyOwned(NONE);
            default:
                return Integer.bitCount(trial.allHummers());
        }
    }

    /** What is drawn ahead of an HOUR happens; answers the seed as it is then. */
    private int drawChance(int seed) {
        int next = stepSeed(seed);
        int kind = drawOf(next, 7);
        if (kind == 0 && facts.tunes > 0) {
            next = stepSeed(next);
            trial.quietAll(drawOf(next, facts.tunes));
        }
        if (kind == 1 && facts.people > 0) {
            next = stepSeed(next);
            trial.quiet(drawOf(next, facts.people));
        }
        if (kind == 2 && facts.people > 0) {
            next = stepSeed(next);
            int person = drawOf(next, facts.people);
            next = stepSeed(next);
            trial.putAt(person, drawOf(next, MAX_PLACE + 1));
        }
        return next;
    }

    private static int stepSeed(int seed) {
        return seed * 1103515245 + 12345;
    }

    private static int drawOf(int seed, int n) {
        return n > 0 ? (seed >>> 16 & 0x7fff) % n : 0;
    }

    // ---- an image

    public void image() {
        kept.copyFrom(book);
        now.saveTo(kept.present, 0);
        isKept = true;
    }

    public boolean restore() {
        if (!isKept) {
            return false;
        }
        book.copyFrom(kept);
        now.loadFrom(kept.present, 0);
        return true;
    }

    // ---- what the calls share

    private void startTrial() {
        trial.copyFrom(now);
    }

    private boolean isPerson(int person) {
        return person >= 0 && person < facts.people;
    }

    private boolean isTune(int tune) {
        return tune >= 0 && tune < facts.tunes;
    }

    private static boolean isWhat(int what, int many) {
        return what >= 0 && what < many;
    }

    private static boolean isWithin(int number, int least, int most) {
        return number >= least && number <= most;
    }

    private static void mustExist(boolean exists) throws NoSuchElementException {
        if (!exists) {
            throw new NoSuchElementException();
        }
    }

    private static void mustFit(boolean fits) throws IllegalArgumentException {
        if (!fits) {
            throw new IllegalArgumentException();
        }
    }

    /** What the text told; it stays until another text is read. */
    private static final class Facts {
        int people;
        final int[] breath = new int[MAX_PEOPLE];
        final int[] rest = new int[MAX_PEOPLE];
        final int[] place = new int[MAX_PEOPLE];
        final int[] cows = new int[MAX_PEOPLE];
        final boolean[] whistles = new boolean[MAX_PEOPLE];
        int tunes;
        final int[] air = new int[MAX_TUNES];
        final int[] owner = new int[MAX_TUNES];
        int earshot;
        // Each cell stems from a byte or more of the text, so both rules fit together.
        final int[] code = new int[MAX_TEXT];
        int codeLength;
        final int[] ruleFrom = new int[RULES];
        final int[] ruleTo = new int[RULES];

        void clear() {
            people = 0;
            tunes = 0;
            earshot = EARSHOT_UNTOLD;
            codeLength = 0;
            for (int rule = 0; rule < RULES; rule++) {
                ruleFrom[rule] = 0;
                ruleTo[rule] = 0;
            }
        }

        void copyFrom(Facts other) {
            people = other.people;
            tunes = other.tunes;
            earshot = other.earshot;
            for (int person = 0; person < MAX_PEOPLE; person++) {
                breath[person] = other.breath[person];
                rest[person] = other.rest[person];
                place[person] = other.place[person];
                cows[person] = other.cows[person];
                whistles[person] = other.whistles[person];
            }
            for (int tune = 0; tune < MAX_TUNES; tune++) {
                air[tune] = other.air[tune];
                owner[tune] = other.owner[tune];
            }
            codeLength = other.codeLength;
            System.arraycopy(other.code, 0, code, 0, MAX_TEXT);
            for (int rule = 0; rule < RULES; rule++) {
                ruleFrom[rule] = other.ruleFrom[rule];
                ruleTo[rule] = other.ruleTo[rule];
            }
        }

        void addCode(int cell) {
            if (codeLength < MAX_TEXT) {
                code[codeLength] = cell;
                codeLength++;
            }
        }

        boolean hasRule(int rule) {
            return ruleTo[rule] > ruleFrom[rule];
        }
    }

    /** The tape; reads its text into FACTS, TOKEN by TOKEN, up to the first FAULT. */
    private static final class Reader {
        static final int ENDED = 0;
        static final int WORD = 1;
        static final int NUMBER = 2;
        static final int SIGN = 3;

        static final int MISPLACED = 1;
        static final int TOO_MUCH = 2;
        static final int UNKNOWN = 3;
        static final int TWICE = 5;

        static final int EITHER = 0;
        static final int BOTH = 1;
        static final int TEST = 2;
        static final int SUM = 3;
        static final int PART = 5;

        static final int MAX_DIGITS = 4;
        static final int MAX_WITHIN = 5;
        static final int MAX_NOTS = 6;

        final byte[] tape = new byte[MAX_TEXT];
        int tapeLength;
        // The FACTS of a text that may yet turn out to be at fault.
        final Facts out = new Facts();
        int length;
        boolean earshotTold;
        int rule;
        int kind;
        int start;
        int end;
        int number;
        int fault;
        int faultPlace = NONE;

        void putBytes(int four) {
            for (int shift = 24; shift >= 0; shift -= 8) {
                if (tapeLength < MAX_TEXT) {
                    tape[tapeLength] = (byte) (four >>> shift);
                    tapeLength++;
                }
            }
        }

        /** False: the first n bytes are at fault. The tape is empty then in either case. */
        boolean read(int n) {
            tapeLength = 0;
            out.clear();
            earshotTold = false;
            length = Math.min(n, MAX_TEXT);
            end = 0;
            fault = 0;
            faultPlace = NONE;
            nextToken();
            for (int line = 0; line < MAX_TEXT && kind != ENDED; line++) {
                if (!readLine()) {
                    return false;
                }
            }
            return true;
        }

        boolean fail(int which) {
            fault = which;
            faultPlace = start;
            return false;
        }

        // A byte that begins no TOKEN is a SIGN too: no rule asks for it, so it is at fault as one.
        void nextToken() {
            start = end;
            while (start < length && isBlank(tape[start])) {
                start++;
            }
            end = start;
            number = 0;
            if (start >= length) {
                kind = ENDED;
            } else if (isLetter(tape[start])) {
                kind = WORD;
                while (end < length && isLetter(tape[end])) {
                    end++;
                }
            } else if (isDigit(tape[start])) {
                kind = NUMBER;
                while (end < length && isDigit(tape[end])) {
                    // Of a longer row, which is at fault, the rest would only overflow.
                    number = end - start < MAX_DIGITS ? number * 10 + tape[end] - '0' : number;
                    end++;
                }
            } else {
                kind = SIGN;
                end++;
            }
        }

        static boolean isBlank(byte b) {
            return b == 32 || b == 10;
        }

        static boolean isLetter(byte b) {
            return b >= 'a' && b <= 'z';
        }

        static boolean isDigit(byte b) {
            return b >= '0' && b <= '9';
        }

        boolean isWord(String word) {
            if (kind != WORD || end - start != word.length()) {
                return false;
            }
            for (int i = 0; i < word.length(); i++) {
                if (tape[start + i] != word.charAt(i)) {
                    return false;
                }
            }
            return true;
        }

        boolean isSign(char sign) {
            return kind == SIGN && tape[start] == sign;
        }

        boolean isLongNumber() {
            return kind == NUMBER && end - start > MAX_DIGITS;
        }

        boolean readLine() {
            if (isWord("person")) {
                return readPerson(false);
            }
            if (isWord("whistler")) {
                return readPerson(true);
            }
            if (isWord("tune")) {
                return readTune();
            }
            if (isWord("earshot")) {
                return readEarshot();
            }
            if (isWord("stops")) {
                return readRule(STOPS);
            }
            if (isWord("joins")) {
                return readRule(JOINS);
            }
            return fail(MISPLACED);
        }

        boolean readSign(char sign) {
            if (!isSign(sign)) {
                return fail(MISPLACED);
            }
            nextToken();
            return true;
        }

        /** NONE: it is at fault. */
        int readNumber(int least, int most) {
            if (kind != NUMBER) {
                fail(MISPLACED);
                return NONE;
            }
            if (isLongNumber() || number < least || number > most) {
                fail(TOO_MUCH);
                return NONE;
            }
            int told = number;
            nextToken();
            return told;
        }

        boolean readPerson(boolean whistles) {
            int person = out.people;
            if (person >= MAX_PEOPLE) {
                return fail(TOO_MUCH);
            }
            nextToken();
            out.whistles[person] = whistles;
            out.breath[person] = readNumber(1, MAX_BREATH);
            if (out.breath[person] == NONE) {
                return false;
            }
            out.rest[person] = readNumber(0, MAX_REST);
            if (out.rest[person] == NONE) {
                return false;
            }
            out.place[person] = readNumber(0, MAX_PLACE);
            if (out.place[person] == NONE) {
                return false;
            }
            out.cows[person] = readNumber(0, MAX_COWS);
            if (out.cows[person] == NONE) {
                return false;
            }
            out.people++;
            return readSign(';');
        }

        boolean readTune() {
            int tune = out.tunes;
            if (tune >= MAX_TUNES) {
                return fail(TOO_MUCH);
            }
            nextToken();
            out.air[tune] = readNumber(0, MAX_AIR);
            if (out.air[tune] == NONE) {
                return false;
            }
            out.owner[tune] = NONE;
            if (isWord("of") && !readOwner(tune)) {
                return false;
            }
            out.tunes++;
            return readSign(';');
        }

        boolean readOwner(int tune) {
            nextToken();
            if (kind != NUMBER) {
                return fail(MISPLACED);
            }
            if (isLongNumber()) {
                return fail(TOO_MUCH);
            }
            if (number >= out.people) {
                return fail(UNKNOWN);
            }
            out.owner[tune] = number;
            nextToken();
            return true;
        }

        boolean readEarshot() {
            if (earshotTold) {
                return fail(TWICE);
            }
            nextToken();
            earshotTold = true;
            out.earshot = readNumber(0, MAX_EARSHOT);
            return out.earshot != NONE && readSign(';');
        }

        boolean readRule(int told) {
            if (out.hasRule(told)) {
                return fail(TWICE);
            }
            nextToken();
            rule = told;
            out.ruleFrom[told] = out.codeLength;
            if (!readExpr(EITHER, 0)) {
                return false;
            }
            out.ruleTo[told] = out.codeLength;
            return readSign(';');
        }

        /**
         * Reads what binds at a level or closer: EXPR, AND, NOT with its test, SUM, PRODUCT, PART.
         * Within: how many other EXPRs the whole one stands in.
         */
        private boolean readExpr(int level, int within) {
            if (level >= PART) {
                return readPart(within);
            }
            int nots = level == TEST ? skipNots() : 0;
            if (nots > MAX_NOTS) {
                return fail(TOO_MUCH);
            }
            if (!readExpr(level + 1, within)) {
                return false;
            }
            int most = level == TEST ? 1 : MAX_TEXT;
            for (int i = 0; i < most && operation(level) != 0; i++) {
                int done = operation(level);
                nextToken();
                if (!readExpr(level + 1, within)) {
                    return false;
                }
                out.addCode(done);
            }
            for (int i = 0; i < nots; i++) {
                out.addCode(NOT);
            }
            return true;
        }

        /** How many there are side by side; it stays at one too many. */
        int skipNots() {
            for (int nots = 0; nots < MAX_NOTS; nots++) {
                if (!isWord("not")) {
                    return nots;
                }
                nextToken();
            }
            return isWord("not") ? MAX_NOTS + 1 : MAX_NOTS;
        }

        /** What the TOKEN does at a level; 0: it does nothing there. */
        int operation(int level) {
            switch (level) {
                case EITHER:
                    return isWord("or") ? OR : 0;
                case BOTH:
                    return isWord("and") ? AND : 0;
                case TEST:
                    return isSign('<') ? LESS : isSign('=') ? SAME : 0;
                case SUM:
                    return isSign('+') ? ADD : isSign('-') ? SUBTRACT : 0;
                default:
                    return isSign('*') ? MULTIPLY : isSign('/') ? DIVIDE : 0;
            }
        }

        private boolean readPart(int within) {
            if (isSign('(')) {
                nextToken();
                if (within >= MAX_WITHIN) {
                    return fail(canBeginExpr() ? TOO_MUCH : MISPLACED);
                }
                if (!readExpr(EITHER, within + 1)) {
                    return false;
                }
                if (!isSign(')')) {
                    return fail(MISPLACED);
                }
                nextToken();
                return true;
            }
            if (kind != NUMBER && kind != WORD) {
                return fail(MISPLACED);
            }
            if (isLongNumber()) {
                return fail(TOO_MUCH);
            }
            int cell = kind == NUMBER ? number : valueOfWord();
            if (cell == NONE) {
                return fail(UNKNOWN);
            }
            out.addCode(cell);
            nextToken();
            return true;
        }

        boolean canBeginExpr() {
            return kind == NUMBER || kind == WORD || isSign('(');
        }

        /** The cell of a VALUE of this rule; NONE: it is none. */
        int valueOfWord() {
            if (isWord("breath")) {
                return VALUE;
            }
            if (isWord("air")) {
                return VALUE + 1;
            }
            if (isWord("with")) {
                return VALUE + 2;
            }
            if (isWord("tunes")) {
                return VALUE + 3;
            }
            if (isWord("hour")) {
                return VALUE + 4;
            }
            return isWord(rule == STOPS ? "hummed" : "far") ? VALUE + 5 : NONE;
        }
    }

    /** Reckons a rule's code with the VALUES as they are set. */
    private static final class Reckoner {
        // A PART waits behind 5 others at most in each of 6 EXPRs one within the other.
        static final int DEPTH = 40;

        final int[] stack = new int[DEPTH];
        final int[] values = new int[VALUES];

        /** 0 where there is no code. */
        int reckon(int[] code, int from, int to) {
            int top = 0;
            for (int at = Math.max(from, 0); at < to && at < code.length; at++) {
                int cell = code[at];
                if (cell >= 0 && top < DEPTH) {
                    stack[top] = cell < VALUE ? cell : valueAt(cell - VALUE);
                    top++;
                } else if (cell == NOT && top >= 1) {
                    stack[top - 1] = stack[top - 1] == 0 ? 1 : 0;
                } else if (cell < 0 && top >= 2) {
                    top--;
                    stack[top - 1] = doneWith(cell, stack[top - 1], stack[top]);
                }
            }
            return top > 0 ? stack[0] : 0;
        }

        int valueAt(int index) {
            return index >= 0 && index < VALUES ? values[index] : 0;
        }

        static int doneWith(int cell, int left, int right) {
            switch (cell) {
                case ADD:
                    return left + right;
                case SUBTRACT:
                    return left - right;
                case MULTIPLY:
                    return left * right;
                case DIVIDE:
                    return right == 0 ? 0 : left / right;
                case LESS:
                    return left < right ? 1 : 0;
                case SAME:
                    return left == right ? 1 : 0;
                case AND:
                    return left != 0 && right != 0 ? 1 : 0;
                default:
                    return left != 0 || right != 0 ? 1 : 0;
            }
        }
    }

    /** All that HOURS and ACTS change, as it is now or as it would be. */
    private static final class Scene {
        final Facts facts;
        final Reckoner reckoner;
        int hour;
        // Breath is here too, since one asks what would be with another one.
        final int[] breath = new int[MAX_PEOPLE];
        final int[] place = new int[MAX_PEOPLE];
        final int[] cows = new int[MAX_PEOPLE];
        final int[] tuneOf = new int[MAX_PEOPLE];
        final int[] hummed = new int[MAX_PEOPLE];
        final int[] idle = new int[MAX_PEOPLE];
        final int[] owner = new int[MAX_TUNES];
        // These two follow from the rows above, and are kept since each HOUR asks them often.
        final int[] hummers = new int[MAX_TUNES];
        final int[] heard = new int[MAX_PEOPLE];
        // Who begins and joins nothing any more.
        int left;
        // How often a TUNE came to another OWNER since this began, or was copied.
        int taken;

        Scene(Facts told, Reckoner shared) {
            facts = told;
            reckoner = shared;
        }

        void begin() {
            hour = 0;
            left = NONE;
            taken = 0;
            for (int person = 0; person < MAX_PEOPLE; person++) {
                breath[person] = facts.breath[person];
                place[person] = facts.place[person];
                cows[person] = facts.cows[person];
                tuneOf[person] = NONE;
                hummed[person] = 0;
                idle[person] = MAX_IDLE;
            }
            for (int tune = 0; tune < MAX_TUNES; tune++) {
                owner[tune] = facts.owner[tune];
            }
            findHummers();
            findHeard();
        }

        void copyFrom(Scene other) {
            hour = other.hour;
            left = other.left;
            taken = 0;
            System.arraycopy(other.breath, 0, breath, 0, MAX_PEOPLE);
            System.arraycopy(other.place, 0, place, 0, MAX_PEOPLE);
            System.arraycopy(other.cows, 0, cows, 0, MAX_PEOPLE);
            System.arraycopy(other.tuneOf, 0, tuneOf, 0, MAX_PEOPLE);
            System.arraycopy(other.hummed, 0, hummed, 0, MAX_PEOPLE);
            System.arraycopy(other.idle, 0, idle, 0, MAX_PEOPLE);
            System.arraycopy(other.owner, 0, owner, 0, MAX_TUNES);
            System.arraycopy(other.hummers, 0, hummers, 0, MAX_TUNES);
            System.arraycopy(other.heard, 0, heard, 0, MAX_PEOPLE);
        }

        void saveTo(int[] rows, int at) {
            if (at < 0 || at + ROW > rows.length) {
                return;
            }
            rows[at] = hour;
            System.arraycopy(place, 0, rows, at + 1, MAX_PEOPLE);
            System.arraycopy(cows, 0, rows, at + 1 + MAX_PEOPLE, MAX_PEOPLE);
            System.arraycopy(tuneOf, 0, rows, at + 1 + 2 * MAX_PEOPLE, MAX_PEOPLE);
            System.arraycopy(hummed, 0, rows, at + 1 + 3 * MAX_PEOPLE, MAX_PEOPLE);
            System.arraycopy(idle, 0, rows, at + 1 + 4 * MAX_PEOPLE, MAX_PEOPLE);
            System.arraycopy(owner, 0, rows, at + 1 + 5 * MAX_PEOPLE, MAX_TUNES);
        }

        void loadFrom(int[] rows, int at) {
            if (at < 0 || at + ROW > rows.length) {
                return;
            }
            hour = rows[at];
            System.arraycopy(rows, at + 1, place, 0, MAX_PEOPLE);
            System.arraycopy(rows, at + 1 + MAX_PEOPLE, cows, 0, MAX_PEOPLE);
            System.arraycopy(rows, at + 1 + 2 * MAX_PEOPLE, tuneOf, 0, MAX_PEOPLE);
            System.arraycopy(rows, at + 1 + 3 * MAX_PEOPLE, hummed, 0, MAX_PEOPLE);
            System.arraycopy(rows, at + 1 + 4 * MAX_PEOPLE, idle, 0, MAX_PEOPLE);
            System.arraycopy(rows, at + 1 + 5 * MAX_PEOPLE, owner, 0, MAX_TUNES);
            findHummers();
            findHeard();
        }

        void findHummers() {
            for (int tune = 0; tune < MAX_TUNES; tune++) {
                hummers[tune] = 0;
                for (int person = 0; person < facts.people; person++) {
                    if (tuneOf[person] == tune) {
                        hummers[tune] |= 1 << person;
                    }
                }
            }
        }

        void findHeard() {
            for (int person = 0; person < facts.people; person++) {
                int reach = facts.whistles[person] ? 2 * facts.earshot : facts.earshot;
                heard[person] = 0;
                for (int other = 0; other < facts.people; other++) {
                    if (other != person && Math.abs(place[person] - place[other]) <= reach) {
                        heard[person] |= 1 << other;
                    }
                }
            }
        }

        // ---- what is asked

        boolean isRested(int person) {
            return idle[person] >= facts.rest[person];
        }

        int allHummers() {
            int who = 0;
            for (int tune = 0; tune < facts.tunes; tune++) {
                who |= hummers[tune];
            }
            return who;
        }

        /** The TUNES (bits) of one, or with NONE those that nobody OWNS. */
        int ownedBy(int person) {
            int which = 0;
            for (int tune = 0; tune < facts.tunes; tune++) {
                if (owner[tune] == person) {
                    which |= 1 << tune;
                }
            }
            return which;
        }

        int howManyOwned(int person) {
            return Integer.bitCount(ownedBy(person));
        }

        int ownedBehind(int person, int hours) {
            for (int i = 0; i < hours; i++) {
                passHour();
            }
            return howManyOwned(person);
        }

        int allCows() {
            int all = 0;
            for (int person = 0; person < facts.people; person++) {
                all += cows[person];
            }
            return all;
        }

        // ---- what is done

        void putAt(int person, int where) {
            place[person] = where;
            findHeard();
        }

        void giveTo(int tune, int person) {
            if (owner[tune] != person) {
                owner[tune] = person;
                taken++;
            }
        }

        void stop(int person) {
            int tune = tuneOf[person];
            if (tune != NONE) {
                hummers[tune] &= ~(1 << person);
                tuneOf[person] = NONE;
                hummed[person] = 0;
                idle[person] = 0;
            }
        }

        void start(int person, int tune) {
            tuneOf[person] = tune;
            hummers[tune] |= 1 << person;
        }

        void quiet(int person) {
            int tune = tuneOf[person];
            if (tune != NONE) {
                stopTogether(1 << person, tune);
            }
        }

        void quietAll(int tune) {
            stopTogether(hummers[tune], tune);
        }

        void clap() {
            for (int tune = 0; tune < facts.tunes; tune++) {
                quietAll(tune);
            }
        }

        /** Of all who stop (bits), those who hum a TUNE do, and it is settled whose it is. */
        void stopTogether(int who, int tune) {
            int stopped = hummers[tune] & who;
            int last = NONE;
            for (int person = 0; person < facts.people; person++) {
                if ((stopped >> person & 1) == 1) {
                    stop(person);
                    last = person;
                }
            }
            if (stopped != 0 && hummers[tune] == 0) {
                giveTo(tune, Integer.bitCount(stopped) == 1 ? last : NONE);
            }
        }

        // ---- an HOUR

        void passHours(int many) {
            for (int i = 0; i < many; i++) {
                passHour();
            }
        }

        void passHour() {
            int stopping = askWhoStops();
            for (int tune = 0; tune < facts.tunes; tune++) {
                stopTogether(stopping, tune);
            }
            for (int person = 0; person < facts.people; person++) {
                boolean stopped = (stopping >> person & 1) == 1;
                if (tuneOf[person] == NONE && !stopped && person != left && isRested(person)) {
                    beginOrJoin(person);
                }
            }
            for (int person = 0; person < facts.people; person++) {
                if (tuneOf[person] != NONE) {
                    hummed[person]++;
                } else {
                    idle[person] = Math.min(idle[person] + 1, MAX_IDLE);
                }
            }
            hour++;
        }

        int askWhoStops() {
            int stopping = 0;
            for (int person = 0; person < facts.people; person++) {
                int tune = tuneOf[person];
                boolean breathless = hummed[person] >= breath[person];
                if (tune != NONE && (breathless || ruleGives(STOPS, person, tune, hummed[person]) > 0)) {
                    stopping |= 1 << person;
                }
            }
            return stopping;
        }

        void beginOrJoin(int person) {
            for (int tune = 0; tune < facts.tunes; tune++) {
                if (owner[tune] == person && hummers[tune] == 0) {
                    start(person, tune);
                    return;
                }
            }
            for (int tune = 0; tune < facts.tunes; tune++) {
                boolean hears = (hummers[tune] & heard[person]) != 0;
                if (hears && ruleGives(JOINS, person, tune, nearest(person, tune)) > 0) {
                    start(person, tune);
                    return;
                }
            }
        }

        /** Special: the VALUE that only this rule has. */
        int ruleGives(int rule, int person, int tune, int special) {
            if (!facts.hasRule(rule)) {
                return 0;
            }
            reckoner.values[0] = breath[person];
            reckoner.values[1] = facts.air[tune];
            reckoner.values[2] = Integer.bitCount(hummers[tune] & ~(1 << person));
            reckoner.values[3] = howManyOwned(person);
            reckoner.values[4] = hour;
            reckoner.values[5] = special;
            return reckoner.reckon(facts.code, facts.ruleFrom[rule], facts.ruleTo[rule]);
        }

        int nearest(int person, int tune) {
            int least = MAX_PLACE;
            for (int other = 0; other < facts.people; other++) {
                if ((hummers[tune] >> other & 1) == 1) {
                    least = Math.min(least, Math.abs(place[person] - place[other]));
                }
            }
            return least;
        }
    }

    /** How TUNES could go from one to the other one, as all stand now. */
    private static final class Hearing {
        final Facts facts;
        final Scene scene;

        Hearing(Facts told, Scene now) {
            facts = told;
            scene = now;
        }

        int steps(int from, int to) {
            int reached = 1 << from;
            for (int step = 0; step < MAX_PEOPLE; step++) {
                if ((reached >> to & 1) == 1) {
                    return step;
                }
                reached |= whoHears(reached);
            }
            return NONE;
        }

        int whoHears(int others) {
            int who = 0;
            for (int person = 0; person < facts.people; person++) {
                if ((scene.heard[person] & others) != 0) {
                    who |= 1 << person;
                }
            }
            return who;
        }

        int mostStepsFrom(int person) {
            int best = NONE;
            int most = 0;
            for (int other = 0; other < facts.people; other++) {
                int steps = steps(person, other);
                if (steps > most) {
                    most = steps;
                    best = other;
                }
            }
            return best;
        }

        int parts() {
            int many = 0;
            for (int person = 0; person < facts.people; person++) {
                if (isLeastOfPart(person)) {
                    many++;
                }
            }
            return many;
        }

        boolean isLeastOfPart(int person) {
            for (int other = 0; other < person; other++) {
                if (steps(person, other) != NONE && steps(other, person) != NONE) {
                    return false;
                }
            }
            return true;
        }

        int fewestHeardByAll() {
            int best = (1 << facts.people) - 1;
            for (int who = 0; who < 1 << facts.people; who++) {
                if (Integer.bitCount(who) < Integer.bitCount(best) && areHeardByAll(who)) {
                    best = who;
                }
            }
            return best;
        }

        boolean areHeardByAll(int who) {
            int others = (1 << facts.people) - 1 & ~who;
            return (whoHears(who) & others) == others;
        }
    }

    /** A ROUND: the shortest row of all owned TUNES by their OWNERS' PLACES. */
    private static final class Ways {
        final Facts facts;
        final Scene scene;
        final int[] row = new int[MAX_TUNES];
        final int[] best = new int[MAX_TUNES];
        int owned;
        int length;
        int least;

        Ways(Facts told, Scene now) {
            facts = told;
            scene = now;
        }

        void find() {
            owned = (1 << facts.tunes) - 1 & ~scene.ownedBy(NONE);
            length = Integer.bitCount(owned);
            least = MAX_TUNES * MAX_PLACE + 1;
            extend(0, 0, 0);
        }

        /** Rows come in their order, so only a shorter one takes the best one's place. */
        private void extend(int depth, int used, int far) {
            if (far >= least) {
                return;
            }
            if (depth >= length) {
                least = far;
                System.arraycopy(row, 0, best, 0, MAX_TUNES);
                return;
            }
            for (int tune = 0; tune < facts.tunes; tune++) {
                int bit = 1 << tune;
                if ((owned & bit) != 0 && (used & bit) == 0) {
                    row[depth] = tune;
                    extend(depth + 1, used | bit, far + wayTo(depth));
                }
            }
        }

        int wayTo(int depth) {
            return depth == 0 ? 0 : Math.abs(placeOf(row[depth]) - placeOf(row[depth - 1]));
        }

        int placeOf(int tune) {
            int owner = scene.owner[tune];
            return owner == NONE ? 0 : scene.place[owner];
        }
    }

    /** What is written down beside the hills: ACTS, what is SEEN, what was refused. */
    private static final class Book {
        static final int SIGHT = 3;

        // The state itself, in an image alone.
        final int[] present = new int[ROW];
        final int[] rows = new int[MAX_ACTS * ROW];
        int acts;
        final int[] sights = new int[MAX_SEEN * SIGHT];
        int seen;
        final int[] refused = new int[STATUSES];

        void copyFrom(Book other) {
            acts = other.acts;
            seen = other.seen;
            System.arraycopy(other.rows, 0, rows, 0, rows.length);
            System.arraycopy(other.sights, 0, sights, 0, sights.length);
            System.arraycopy(other.refused, 0, refused, 0, refused.length);
        }

        void refuse(int status) {
            if (status >= 0 && status < STATUSES) {
                refused[status]++;
            }
        }

        int refusals(int status) {
            return status >= 0 && status < STATUSES ? refused[status] : 0;
        }

        void keepBefore(Scene scene) {
            if (acts >= MAX_ACTS) {
                System.arraycopy(rows, ROW, rows, 0, (MAX_ACTS - 1) * ROW);
                acts = MAX_ACTS - 1;
            }
            scene.saveTo(rows, acts * ROW);
            acts++;
        }

        boolean takeBack(Scene scene) {
            if (acts == 0) {
                return false;
            }
            acts--;
            scene.loadFrom(rows, acts * ROW);
            return true;
        }

        boolean addSight(int person, int tune, int hours) {
            if (seen >= MAX_SEEN) {
                return false;
            }
            int at = seen * SIGHT;
            sights[at] = person;
            sights[at + 1] = tune;
            sights[at + 2] = hours;
            seen++;
            return true;
        }

        int lastSight() {
            int last = 0;
            for (int i = 0; i < seen && i < MAX_SEEN; i++) {
                last = Math.max(last, sights[i * SIGHT + 2]);
            }
            return last;
        }

        /** Whether what is SEEN at the end of just so many HOURS is so. */
        boolean sightsAgree(Scene scene, int hours) {
            for (int i = 0; i < seen && i < MAX_SEEN; i++) {
                int at = i * SIGHT;
                if (sights[at + 2] == hours && scene.tuneOf[sights[at]] != sights[at + 1]) {
                    return false;
                }
            }
            return true;
        }
    }
}
