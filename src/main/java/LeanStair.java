/** A stair that stands only as long as the people who queue on it bear it. */
public final class LeanStair {
    /** There is none. */
    public static final int NONE = -1;

    private static final int STEPS = 8;
    private static final int PEOPLE = 9;
    private static final int SETS = 512;
    private static final int TAPE = 900;
    private static final int PAST = 10;
    private static final int TRAYS = 4;
    private static final int IMAGES = 2;
    private static final int PLACES = 40;
    private static final int BUILDS = 100;
    private static final int AHEAD = 100;
    private static final int PROPS = 99;
    private static final int PROP_BEARS = 10;

    private static final int NO_SUCH = -2;
    private static final int BAD_NUMBER = -3;
    private static final int TOO_MANY = -4;
    private static final int NOT_NOW = -5;
    private static final int MISSING = -6;
    private static final int NO_PLACE = -7;
    private static final int WHY_NOT = -10;
    private static final int FAULTY = -30;

    private final byte[] tape;
    private int fed;
    private int faultKind;
    private int faultPlace;
    private final Scene now;
    private final Scene judged;
    /** One more than can be undone, so that keeping a scene never costs one that still counts. */
    private final Scene[] past;
    private int pastNext;
    private int pastCount;
    private final Scene[] images;
    private final boolean[] imaged;
    private final Tray[] trays;
    private final Reader reader;
    private final Scales scales;
    private final Deeds deeds;
    private final Sets sets;
    private final Service service;
    private final Rooms rooms;
    private final WhatIf whatIf;

    public LeanStair() {
        tape = new byte[TAPE];
        faultPlace = NONE;
        Plan bare = new Plan(0);
        now = new Scene(bare);
        judged = new Scene(bare);
        past = new Scene[PAST + 1];
        for (int i = 0; i < past.length; i++) {
            past[i] = new Scene(bare);
        }
        images = new Scene[IMAGES];
        for (int i = 0; i < images.length; i++) {
            images[i] = new Scene(bare);
        }
        imaged = new boolean[IMAGES];
        trays = new Tray[TRAYS];
        for (int i = 0; i < trays.length; i++) {
            trays[i] = new Tray();
        }
        reader = new Reader();
        scales = new Scales();
        deeds = new Deeds();
        sets = new Sets();
        service = new Service();
        rooms = new Rooms();
        whatIf = new WhatIf();
    }

    // ---- the stair

    public int feed(int a, int b, int c, int d, int e) {
        if (fed + 20 > TAPE) {
            return NOT_NOW;
        }
        putInt(a);
        putInt(b);
        putInt(c);
        putInt(d);
        putInt(e);
        return fed;
    }

    private void putInt(int v) {
        for (int shift = 24; shift >= 0 && fed < tape.length; shift -= 8) {
            tape[fed] = (byte) (v >> shift);
            fed++;
        }
    }

    public int stair(int n) {
        if (n < 0 || n > fed) {
            return BAD_NUMBER;
        }
        fed = 0;
        Plan plan = reader.read(tape, n);
        faultKind = reader.fault;
        faultPlace = reader.place;
        if (faultKind != 0) {
            return FAULTY - faultKind;
        }
        now.begin(plan);
        deeds.settle(now);
        pastCount = 0;
        return plan.lines;
    }

    public int fault(int what) {
        if (what == 0) {
            return faultKind;
        }
        return what == 1 ? faultPlace : NONE;
    }

    public int person(int p, int what) {
        if (!now.isTold(p)) {
            return NO_SUCH;
        }
        switch (what) {
            case 0: return now.stepOf[p];
            case 1: return now.buildOf[p];
            case 2: return now.ageOf(p);
            case 3: return now.plan.frailOf[p];
            case 4: return now.plan.byOf[p];
            case 5: return now.plan.mateOf[p];
            case 6: return now.isThere(p) ? 1 : 0;
            case 7: return now.isThere(p) ? scales.bearing(now, p, now.buildOf[p], now.isWed(p, now.there)) : 0;
            default: return NO_SUCH;
        }
    }

    public int step(int k, int what) {
        if (!now.isStep(k)) {
            return NO_SUCH;
        }
        switch (what) {
            case 0: return now.plan.load[k];
            case 1: return stepBears(k);
            case 2: return now.propsOn[k];
            case 3: return now.onStep(k);
            case 4: return now.plan.joint[k + 1];
            default: return NO_SUCH;
        }
    }

    private int stepBears(int k) {
        scales.slackLater(now, 0);
        return scales.row[k];
    }

    /** Whatever changes the scene settles whether it is fallen, so that tells whether it stands. */
    public int stands() {
        return now.fallen ? 0 : 1;
    }

    public int crack(int what) {
        if (what < 0 || what > 1) {
            return NO_SUCH;
        }
        scales.slackLater(now, 0);
        for (int first = 0; first < now.plan.steps; first++) {
            int last = scales.crackFrom(now, first);
            if (last != NONE) {
                return what == 0 ? first : last;
            }
        }
        return NONE;
    }

    public int spare() {
        return scales.slackLater(now, 0);
    }

    // ---- deeds

    public int see(int p) {
        keepPast();
        int why = deeds.seeOne(now, p);
        return why != 0 ? WHY_NOT - why : did(Integer.bitCount(now.there));
    }

    public int bring(int k, int build) {
        keepPast();
        int why = deeds.bringOne(now, k, build);
        return why != 0 ? WHY_NOT - why : did(now.people - 1);
    }

    public int move(int p, int k) {
        keepPast();
        int why = deeds.moveOne(now, p, k);
        return why != 0 ? WHY_NOT - why : did(now.fallen ? 0 : 1);
    }

    public int prop(int k) {
        keepPast();
        int why = deeds.propOne(now, k);
        return why != 0 ? WHY_NOT - why : did(now.propsOn[k]);
    }

    public int days(int n) {
        if (n < 1 || n > 99) {
            return BAD_NUMBER;
        }
        if (now.fallen) {
            return NOT_NOW;
        }
        keepPast();
        int gone = 0;
        for (int i = 0; i < n && deeds.dayGoes(now) == 0; i++) {
            gone++;
        }
        return did(gone);
    }

    public int undo(int n) {
        if (n < 1 || n > PAST || n > pastCount) {
            return BAD_NUMBER;
        }
        pastNext = Math.floorMod(pastNext - n, PAST + 1);
        pastCount -= n;
        now.copyFrom(past[pastNext]);
        return pastCount;
    }

    public int judge(int tray, int what) {
        if (!isTray(tray) || what < 0 || what > 3) {
            return NO_SUCH;
        }
        if (trays[tray].size < 0) {
            return MISSING;
        }
        judged.copyFrom(now);
        int done = deeds.doAll(judged, trays[tray]);
        switch (what) {
            case 0: return done < trays[tray].size ? done : NONE;
            case 1: return deeds.why;
            case 2: return judged.there;
            default: return judged.fallen ? 1 : 0;
        }
    }

    public int perform(int tray) {
        if (!isTray(tray)) {
            return NO_SUCH;
        }
        if (trays[tray].size < 0) {
            return MISSING;
        }
        keepPast();
        int done = deeds.doAll(now, trays[tray]);
        return done == 0 ? 0 : did(done);
    }

    public int year(int seed, int times) {
        if (times < 1 || times > 40) {
            return BAD_NUMBER;
        }
        keepPast();
        deeds.begin(seed);
        int done = 0;
        for (int i = 0; i < times; i++) {
            if (deeds.drawOne(now) == 0) {
                done++;
            }
        }
        return done == 0 ? 0 : did(done);
    }

    /** Sets the scene aside; it counts only once did() says that something was done. */
    private void keepPast() {
        past[pastNext].copyFrom(now);
    }

    private int did(int answer) {
        pastNext = (pastNext + 1) % (PAST + 1);
        pastCount = Math.min(pastCount + 1, PAST);
        return answer;
    }

    // ---- who holds it

    public int holds(int set) {
        if ((set & ~now.there) != 0) {
            return BAD_NUMBER;
        }
        scales.weigh(now);
        return scales.slackOf(now, set) >= 0 ? 1 : 0;
    }

    public int fewest(int what) {
        if (what < 0 || what > 1) {
            return NO_SUCH;
        }
        return sizeOrSet(sets.least(now), what);
    }

    public int holdings() {
        return sets.countAll(now);
    }

    public int needed() {
        return sets.needs(now);
    }

    public int most(int what) {
        if (what < 0 || what > 1) {
            return NO_SUCH;
        }
        return sizeOrSet(sets.mostGone(now), what);
    }

    public int served(int what) {
        if (what < 0 || what > 1) {
            return NO_SUCH;
        }
        return sizeOrSet(service.greatest(now), what);
    }

    private static int sizeOrSet(int set, int what) {
        if (set == NONE) {
            return NONE;
        }
        return what == 0 ? Integer.bitCount(set) : set;
    }

    // ---- instead, props, days

    public int instead(int p) {
        if (!now.isTold(p)) {
            return NO_SUCH;
        }
        if (!now.isThere(p) || now.people >= PEOPLE) {
            return NOT_NOW;
        }
        return whatIf.leastInstead(now, p);
    }

    public int swap(int build) {
        int bad = refusesNewcomer(build);
        return bad != 0 ? bad : whatIf.bestSwap(now, build);
    }

    public int props(int what) {
        return propsFor(0, what);
    }

    public int mends(int what) {
        return propsFor(now.there, what);
    }

    private int propsFor(int set, int what) {
        if (what != 0 && (what < 10 || !now.isStep(what - 10))) {
            return NO_SUCH;
        }
        int total = whatIf.fewestProps(now, set);
        return what == 0 ? total : whatIf.more[what - 10];
    }

    public int sinks() {
        return whatIf.firstSunk(now);
    }

    public int stay(int build) {
        int bad = refusesNewcomer(build);
        return bad != 0 ? bad : whatIf.longestStay(now, build);
    }

    private int refusesNewcomer(int build) {
        if (build < 0 || build >= BUILDS) {
            return BAD_NUMBER;
        }
        return now.people >= PEOPLE ? NOT_NOW : 0;
    }

    // ---- builds by trials

    public int builds(int tray, int p) {
        int bad = refusesRooms(tray, p);
        return bad != 0 ? bad : rooms.find(now, trays[tray], p);
    }

    public int bound(int tray, int p, int what) {
        if (what < 0 || what > 1) {
            return NO_SUCH;
        }
        int bad = refusesRooms(tray, p);
        if (bad != 0) {
            return bad;
        }
        rooms.find(now, trays[tray], p);
        return what == 0 ? rooms.first() : rooms.last();
    }

    public int trial(int tray, int p) {
        int bad = refusesRooms(tray, p);
        return bad != 0 ? bad : rooms.nextOut(now, trays[tray], p);
    }

    private int refusesRooms(int tray, int p) {
        if (!isTray(tray) || !now.isTold(p)) {
            return NO_SUCH;
        }
        if (trays[tray].size < 0) {
            return MISSING;
        }
        return rooms.refusal(now, trays[tray], p);
    }

    // ---- two clerks

    public int wins() {
        if (now.fallen) {
            return NOT_NOW;
        }
        return sets.play(now) > 0 ? 1 : 0;
    }

    public int best() {
        return now.fallen ? NOT_NOW : sets.winningMove(now);
    }

    public int lasts() {
        if (now.fallen) {
            return NOT_NOW;
        }
        int outcome = sets.play(now);
        return outcome > 0 ? outcome : -outcome - 1;
    }

    // ---- shares, chances

    public int share(int p, int what) {
        if (!now.isTold(p) || what < 0 || what > 1) {
            return NO_SUCH;
        }
        if (!now.isThere(p)) {
            return NOT_NOW;
        }
        sets.mark(now);
        int above = sets.turnedBy(now, p);
        int below = 1 << (Integer.bitCount(now.there) - 1);
        int common = (int) commonPart(above, below);
        return (what == 0 ? above : below) / common;
    }

    public int pillar() {
        return sets.greatestShare(now);
    }

    public long chance(int what) {
        if (what < 0 || what > 1) {
            return NO_SUCH;
        }
        long above = sets.chanceAbove(now);
        long below = 1;
        for (int left = Integer.bitCount(now.there); left > 0; left--) {
            below *= 10;
        }
        return (what == 0 ? above : below) / commonPart(above, below);
    }

    public int where(int build) {
        int bad = refusesNewcomer(build);
        return bad != 0 ? bad : whatIf.likeliestStep(now, build);
    }

    /** The greatest divisor of both, 1 at least. */
    private static long commonPart(long a, long b) {
        for (int guard = 0; guard < 200 && b != 0; guard++) {
            long rest = a % b;
            a = b;
            b = rest;
        }
        return Math.max(a, 1);
    }

    // ---- trays, images

    public int numbers(int tray, int sort, int n) {
        if (!isTray(tray) || sort < 0 || sort > 3) {
            return NO_SUCH;
        }
        if (n < 0 || n > PLACES) {
            return BAD_NUMBER;
        }
        trays[tray].begin(sort, n);
        return 0;
    }

    public long write(int tray, int i, long v) {
        if (!isTray(tray)) {
            return NO_SUCH;
        }
        if (trays[tray].size < 0) {
            return MISSING;
        }
        if (i < 0 || i >= trays[tray].size) {
            return NO_PLACE;
        }
        return trays[tray].put(i, v);
    }

    public int lists(int tray) {
        if (!isTray(tray)) {
            return NO_SUCH;
        }
        if (trays[tray].size < 0) {
            return MISSING;
        }
        scales.slackLater(now, 0);
        int listed = Math.min(now.plan.steps, trays[tray].size);
        for (int k = 0; k < listed; k++) {
            trays[tray].put(k, scales.row[k]);
        }
        return listed;
    }

    private static boolean isTray(int tray) {
        return tray >= 0 && tray < TRAYS;
    }

    public int image(int i) {
        if (i < 0 || i >= IMAGES) {
            return NO_SUCH;
        }
        images[i].copyFrom(now);
        imaged[i] = true;
        return 0;
    }

    public int restore(int i) {
        if (i < 0 || i >= IMAGES) {
            return NO_SUCH;
        }
        if (!imaged[i]) {
            return NOT_NOW;
        }
        now.copyFrom(images[i]);
        pastCount = 0;
        return 0;
    }

    public int count(int what) {
        switch (what) {
            case 0: return now.plan.steps;
            case 1: return now.people;
            case 2: return now.there;
            case 3: return now.fallen ? 1 : 0;
            case 4: return now.seen;
            case 5: return now.plan.quota;
            case 6: return now.propsInAll();
            case 7: return now.day;
            case 8: return loadsInAll();
            case 9: return bearsInAll();
            case 10: return pastCount;
            case 11: return fed;
            case 12: return now.plan.lines;
            default: return NONE;
        }
    }

    private int loadsInAll() {
        int sum = 0;
        for (int k = 0; k < now.plan.steps; k++) {
            sum += now.plan.load[k];
        }
        return sum;
    }

    private int bearsInAll() {
        scales.slackLater(now, 0);
        int sum = 0;
        for (int k = 0; k < now.plan.steps; k++) {
            sum += scales.row[k];
        }
        return sum;
    }

    /** What the text tells; never changed once it is read, so scenes and images share it. */
    private static final class Plan {
        int steps;
        final int[] load;
        /** joint[k] lies ahead of step k; 0 at both ends of the stair, where there is none. */
        final int[] joint;
        int told;
        final int[] stepOf;
        final int[] buildOf;
        final int[] ageOf;
        final int[] frailOf;
        final int[] byOf;
        final int[] mateOf;
        int quota;
        int firstDay;
        int lines;
        /** Both laws one behind the other, operators behind what they take. */
        final int[] code;
        int codeSize;
        int bearsFrom;
        int bearsTo;
        int mayFrom;
        int mayTo;

        /** No token emits more than one code, so the text's length is room enough. */
        Plan(int textLength) {
            steps = 1;
            load = new int[STEPS];
            joint = new int[STEPS + 1];
            stepOf = new int[PEOPLE];
            buildOf = new int[PEOPLE];
            ageOf = new int[PEOPLE];
            frailOf = new int[PEOPLE];
            byOf = new int[PEOPLE];
            mateOf = new int[PEOPLE];
            for (int p = 0; p < PEOPLE; p++) {
                byOf[p] = NONE;
                mateOf[p] = NONE;
            }
            quota = 1;
            code = new int[Math.max(textLength, 0)];
            bearsFrom = NONE;
            mayFrom = NONE;
        }

        void emit(int op) {
            if (codeSize < code.length) {
                code[codeSize] = op;
                codeSize++;
            }
        }
    }

    /** All that deeds change. */
    private static final class Scene {
        Plan plan;
        int people;
        final int[] stepOf;
        final int[] buildOf;
        /** The day on which a person's age was 0; may lie below 0. */
        final int[] bornOn;
        final int[] propsOn;
        int there;
        int seen;
        int day;
        boolean fallen;

        Scene(Plan plan) {
            this.plan = plan;
            stepOf = new int[PEOPLE];
            buildOf = new int[PEOPLE];
            bornOn = new int[PEOPLE];
            propsOn = new int[STEPS];
        }

        void begin(Plan read) {
            plan = read;
            people = read.told;
            there = (1 << read.told) - 1;
            seen = 0;
            day = read.firstDay;
            fallen = false;
            for (int p = 0; p < PEOPLE; p++) {
                stepOf[p] = read.stepOf[p];
                buildOf[p] = read.buildOf[p];
                bornOn[p] = read.firstDay - read.ageOf[p];
            }
            for (int k = 0; k < STEPS; k++) {
                propsOn[k] = 0;
            }
        }

        void copyFrom(Scene other) {
            plan = other.plan;
            people = other.people;
            there = other.there;
            seen = other.seen;
            day = other.day;
            fallen = other.fallen;
            for (int p = 0; p < PEOPLE; p++) {
                stepOf[p] = other.stepOf[p];
                buildOf[p] = other.buildOf[p];
                bornOn[p] = other.bornOn[p];
            }
            for (int k = 0; k < STEPS; k++) {
                propsOn[k] = other.propsOn[k];
            }
        }

        boolean isTold(int p) {
            return p >= 0 && p < people;
        }

        boolean isThere(int p) {
            return isTold(p) && (there & 1 << p) != 0;
        }

        int ageOf(int p) {
            return day - bornOn[p];
        }

        boolean isStep(int k) {
            return k >= 0 && k < plan.steps;
        }

        /** 1 if the other one of p's couple is in the set. */
        int isWed(int p, int set) {
            int mate = plan.mateOf[p];
            return mate != NONE && (set & 1 << mate) != 0 ? 1 : 0;
        }

        int onStep(int k) {
            int set = 0;
            for (int p = 0; p < people; p++) {
                if (stepOf[p] == k) {
                    set |= 1 << p;
                }
            }
            return set & there;
        }

        int propsInAll() {
            int sum = 0;
            for (int k = 0; k < STEPS; k++) {
                sum += propsOn[k];
            }
            return sum;
        }
    }

    /** Reads a text; after its first fault it goes no further along. */
    private static final class Reader {
        private static final int END = 0;
        private static final int UNKNOWN = 1;
        private static final int BAD = 2;
        private static final int BROKEN = 3;
        private static final int FIRST_WORD = 100;
        private static final int NUMBER = 1000;
        private static final String WORDS = "stair joint takes person on build age frail by couple quota bears may day or and not who step wed wait ";
        private static final String SIGNS = ";:+-*()[]=<>";
        private static final int STAIR = 100;
        private static final int JOINT = 101;
        private static final int TAKES = 102;
        private static final int PERSON = 103;
        private static final int ON = 104;
        private static final int BUILD = 105;
        private static final int AGE = 106;
        private static final int FRAIL = 107;
        private static final int BY = 108;
        private static final int COUPLE = 109;
        private static final int QUOTA = 110;
        private static final int BEARS = 111;
        private static final int MAY = 112;
        private static final int DAY = 113;
        private static final int OR = 114;
        private static final int AND = 115;
        private static final int NOT = 116;
        private static final int WHO = 117;
        private static final int STEP = 118;
        private static final int WED = 119;
        private static final int WAIT = 120;
        private static final int NESTED = 6;

        /** A sign by its own number, a word from FIRST_WORD on, a number from NUMBER on. */
        private final int[] kinds;
        private final int[] places;
        private int tokens;
        private int at;
        private int kind;
        private boolean waitStands;
        private Plan plan;
        int fault;
        int place;

        Reader() {
            kinds = new int[TAPE + 1];
            places = new int[TAPE + 1];
            plan = new Plan(0);
        }

        /** What it returns is whole only if fault is 0. */
        Plan read(byte[] tape, int n) {
            int length = Math.max(0, Math.min(n, Math.min(tape.length, kinds.length - 1)));
            split(tape, length);
            fault = 0;
            place = NONE;
            plan = new Plan(length);
            at = 0;
            kind = kinds[0];
            stairLine();
            for (int guard = 0; guard <= tokens && fault == 0 && kind != END; guard++) {
                line();
                expect(';');
                plan.lines++;
            }
            return plan;
        }

        /** Splits the text into tokens, up to the first that is none, or to its end. */
        private void split(byte[] text, int length) {
            tokens = 0;
            boolean good = true;
            for (int i = 0; i < length && good; i++) {
                if (begins(text, i)) {
                    kinds[tokens] = kindAt(text, length, i);
                    places[tokens] = i;
                    good = kinds[tokens] != BAD;
                    tokens++;
                }
            }
            if (good) {
                kinds[tokens] = END;
                places[tokens] = length;
                tokens++;
            }
        }

        private static boolean begins(byte[] text, int i) {
            int before = i > 0 ? text[i - 1] : 32;
            if (isLetter(text[i])) {
                return !isLetter(before);
            }
            if (isDigit(text[i])) {
                return !isDigit(before);
            }
            return text[i] != 10 && text[i] != 32;
        }

        private static int kindAt(byte[] text, int length, int from) {
            if (isLetter(text[from])) {
                return wordAt(text, length, from);
            }
            if (isDigit(text[from])) {
                return numberAt(text, length, from);
            }
            boolean sign = text[from] > 0 && SIGNS.indexOf((char) text[from]) >= 0;
            return sign ? text[from] : BAD;
        }

        private static boolean isLetter(int c) {
            return c >= 'a' && c <= 'z';
        }

        private static boolean isDigit(int c) {
            return c >= '0' && c <= '9';
        }

        private static int wordAt(byte[] text, int length, int from) {
            int to = from;
            while (to < length && isLetter(text[to])) {
                to++;
            }
            int word = FIRST_WORD;
            int same = 0;
            for (int i = 0; i < WORDS.length(); i++) {
                char c = WORDS.charAt(i);
                if (c != ' ') {
                    same = same >= 0 && from + same < to && text[from + same] == c ? same + 1 : -1;
                } else if (same == to - from) {
                    return word;
                } else {
                    word++;
                    same = 0;
                }
            }
            return UNKNOWN;
        }

        private static int numberAt(byte[] text, int length, int from) {
            int told = 0;
            for (int i = from; i < length && isDigit(text[i]); i++) {
                if (i - from >= 3) {
                    return BAD;
                }
                told = told * 10 + text[i] - '0';
            }
            return NUMBER + told;
        }

        /** Wherever the parser meets what is no token, that is the fault. */
        private void fail(int why) {
            if (fault == 0) {
                fault = kind == BAD ? 1 : why;
                place = places[at];
                kind = BROKEN;
            }
        }

        private void next() {
            if (fault == 0 && at + 1 < tokens) {
                at++;
                kind = kinds[at];
            }
        }

        private void expect(int wanted) {
            if (kind == wanted) {
                next();
            } else {
                fail(2);
            }
        }

        /** A number from low to high; low, if there is a fault. */
        private int number(int low, int high) {
            int told = kind - NUMBER;
            if (told < 0) {
                fail(2);
                return low;
            }
            if (told < low || told > high) {
                fail(3);
                return low;
            }
            next();
            return told;
        }

        private void stairLine() {
            expect(STAIR);
            plan.load[0] = number(0, 999);
            for (int k = 1; k < STEPS && kind >= NUMBER; k++) {
                plan.load[k] = number(0, 999);
                plan.steps++;
            }
            expect(';');
            plan.lines++;
        }

        private void line() {
            switch (kind) {
                case JOINT: jointLine(); break;
                case PERSON: personLine(plan.told); break;
                case COUPLE: coupleLine(); break;
                case QUOTA: next(); plan.quota = number(1, 9); break;
                case BEARS: bearsLine(); break;
                case MAY: mayLine(); break;
                case DAY: next(); plan.firstDay = number(0, 999); break;
                default: fail(2); break;
            }
        }

        private void jointLine() {
            next();
            int k = number(0, plan.steps - 2);
            expect(TAKES);
            plan.joint[k + 1] = number(0, 999);
        }

        private void personLine(int p) {
            if (p >= PEOPLE) {
                fail(4);
                return;
            }
            next();
            expect(ON);
            plan.stepOf[p] = number(0, plan.steps - 1);
            expect(BUILD);
            plan.buildOf[p] = number(0, 99);
            for (int guard = 0; guard <= tokens && (kind == AGE || kind == FRAIL || kind == BY); guard++) {
                flag(p);
            }
            plan.told++;
        }

        private void flag(int p) {
            int which = kind;
            next();
            if (which == AGE) {
                plan.ageOf[p] = number(0, 99);
            } else if (which == FRAIL) {
                plan.frailOf[p] = number(0, 10);
            } else {
                plan.byOf[p] = number(0, 999);
            }
        }

        private void coupleLine() {
            next();
            int one = unwed(NONE);
            int other = unwed(one);
            if (fault == 0) {
                plan.mateOf[one] = other;
                plan.mateOf[other] = one;
            }
        }

        private int unwed(int mate) {
            int told = kind - NUMBER;
            if (told >= 0 && told < plan.told && (told == mate || plan.mateOf[told] != NONE)) {
                fail(3);
            }
            return number(0, plan.told - 1);
        }

        private void bearsLine() {
            next();
            expect(':');
            waitStands = false;
            plan.bearsFrom = plan.codeSize;
            sum(0);
            plan.bearsTo = plan.codeSize;
        }

        private void mayLine() {
            next();
            expect(':');
            waitStands = true;
            plan.mayFrom = plan.codeSize;
            truth(0);
            plan.mayTo = plan.codeSize;
        }

        private void truth(int depth) {
            both(depth);
            for (int guard = 0; guard <= tokens && kind == OR; guard++) {
                next();
                both(depth);
                plan.emit(Law.OPS + Law.OR);
            }
        }

        private void both(int depth) {
            unit(depth);
            for (int guard = 0; guard <= tokens && kind == AND; guard++) {
                next();
                unit(depth);
                plan.emit(Law.OPS + Law.AND);
            }
        }

        private void unit(int depth) {
            if ((kind == NOT || kind == '[') && depth >= NESTED) {
                fail(4);
            } else if (kind == NOT) {
                next();
                unit(depth + 1);
                plan.emit(Law.OPS + Law.NOT);
            } else if (kind == '[') {
                next();
                truth(depth + 1);
                expect(']');
            } else {
                sum(depth);
                int sign = kind;
                if (sign == '=' || sign == '<' || sign == '>') {
                    next();
                    sum(depth);
                    plan.emit(Law.OPS + sign);
                } else {
                    fail(2);
                }
            }
        }

        private void sum(int depth) {
            term(depth);
            for (int guard = 0; guard <= tokens && (kind == '+' || kind == '-'); guard++) {
                int sign = kind;
                next();
                term(depth);
                plan.emit(Law.OPS + sign);
            }
        }

        private void term(int depth) {
            atom(depth);
            for (int guard = 0; guard <= tokens && kind == '*'; guard++) {
                next();
                atom(depth);
                plan.emit(Law.OPS + '*');
            }
        }

        private void atom(int depth) {
            if (kind == '(' && depth >= NESTED) {
                fail(4);
            } else if (kind == '(') {
                next();
                sum(depth + 1);
                expect(')');
            } else if (kind >= NUMBER) {
                plan.emit(number(0, 999));
            } else if (factOf(kind) != NONE) {
                plan.emit(Law.FACTS + factOf(kind));
                next();
            } else {
                fail(2);
            }
        }

        private int factOf(int word) {
            switch (word) {
                case WHO: return Law.WHO;
                case BUILD: return Law.BUILD;
                case AGE: return Law.AGE;
                case STEP: return Law.STEP;
                case DAY: return Law.DAY;
                case WED: return Law.WED;
                case WAIT: return waitStands ? Law.WAIT : NONE;
                default: return NONE;
            }
        }
    }

    /** Works a law out: numbers as they are, facts from FACTS on, operators from OPS on (signs by their own number). */
    private static final class Law {
        static final int FACTS = 1000;
        static final int OPS = 2000;
        static final int WHO = 0;
        static final int BUILD = 1;
        static final int AGE = 2;
        static final int STEP = 3;
        static final int DAY = 4;
        static final int WED = 5;
        static final int WAIT = 6;
        static final int OR = 1;
        static final int AND = 2;
        static final int NOT = 3;
        private static final int MOST = 1000000;

        private final int[] facts;
        /** Six levels of nesting keep at most some eighteen values waiting. */
        private final int[] stack;

        Law() {
            facts = new int[WAIT + 1];
            stack = new int[40];
        }

        void tell(int who, int build, int age, int step, int day, int wed, int wait) {
            facts[WHO] = who;
            facts[BUILD] = build;
            facts[AGE] = age;
            facts[STEP] = step;
            facts[DAY] = day % 7;
            facts[WED] = wed;
            facts[WAIT] = wait;
        }

        int run(int[] code, int from, int to) {
            int top = 0;
            for (int i = from; i >= 0 && i < to && i < code.length; i++) {
                int op = code[i];
                if (op < OPS) {
                    if (top < stack.length) {
                        int fact = op - FACTS;
                        stack[top] = fact >= 0 && fact < facts.length ? facts[fact] : op;
                        top++;
                    }
                } else if (op == OPS + NOT) {
                    if (top >= 1) {
                        stack[top - 1] = 1 - stack[top - 1];
                    }
                } else if (top >= 2) {
                    top--;
                    // In long, as two numbers of a million each come to more than an int holds.
                    long a = stack[top - 1];
                    long b = stack[top];
                    long v;
                    switch (op - OPS) {
                        case '+': v = a + b; break;
                        case '-': v = a - b; break;
                        case '*': v = a * b; break;
                        case '=': v = a == b ? 1 : 0; break;
                        case '<': v = a < b ? 1 : 0; break;
                        case '>': v = a > b ? 1 : 0; break;
                        case AND: v = a & b; break;
                        default: v = a | b; break;
                    }
                    stack[top - 1] = v > MOST ? MOST : v < -MOST ? -MOST : (int) v;
                }
            }
            return top > 0 ? stack[top - 1] : 0;
        }
    }

    /** What people bear, what steps bear, and how much is to spare. */
    private static final class Scales {
        private static final int NO_BY = 99;
        private static final int MOST_BORNE = 999;
        private static final int FAR = 1000000;

        private final Law law;
        /** What each who is there bears if the other one of its couple isn't there, or is. */
        final int[] alone;
        final int[] paired;
        /** What each step bears, as it was filled last. */
        final int[] row;

        Scales() {
            law = new Law();
            alone = new int[PEOPLE];
            paired = new int[PEOPLE];
            row = new int[STEPS];
        }

        /** What p would bear today if its build were so and the other one of its couple were there or not. */
        int bearing(Scene s, int p, int build, int wed) {
            return strength(s.plan, p, build, s.ageOf(p), s.stepOf[p], s.day, wed);
        }

        /** What one would bear who is brought to step k today, so many days later. */
        int newcomer(Scene s, int k, int build, int later) {
            return strength(s.plan, s.people, build, later, k, s.day + later, 0);
        }

        private int strength(Plan plan, int who, int build, int age, int step, int day, int wed) {
            if (plan.bearsFrom == NONE) {
                return build;
            }
            law.tell(who, build, age, step, day, wed, 0);
            int told = law.run(plan.code, plan.bearsFrom, plan.bearsTo);
            if (told > MOST_BORNE) {
                return MOST_BORNE;
            }
            return told < 0 ? 0 : told;
        }

        boolean mayBeSeen(Scene s, int p) {
            if (s.plan.mayFrom == NONE) {
                return true;
            }
            int by = s.plan.byOf[p];
            int wait = by == NONE ? NO_BY : Math.max(0, by - s.day);
            law.tell(p, s.buildOf[p], s.ageOf(p), s.stepOf[p], s.day, s.isWed(p, s.there), wait);
            return law.run(s.plan.code, s.plan.mayFrom, s.plan.mayTo) != 0;
        }

        /** The row with all who are there, so many days later: what is to spare then. */
        int slackLater(Scene s, int later) {
            fillProps(s);
            for (int p = 0; p < s.people; p++) {
                if (s.isThere(p)) {
                    int wed = s.isWed(p, s.there);
                    int day = s.day + later;
                    row[s.stepOf[p]] += strength(s.plan, p, s.buildOf[p], day - s.bornOn[p], s.stepOf[p], day, wed);
                }
            }
            return slack(s);
        }

        /** Once ahead of many sets: who bears what today, with its couple and without. */
        void weigh(Scene s) {
            for (int p = 0; p < s.people; p++) {
                if (s.isThere(p)) {
                    alone[p] = bearing(s, p, s.buildOf[p], 0);
                    paired[p] = s.plan.mateOf[p] == NONE ? alone[p] : bearing(s, p, s.buildOf[p], 1);
                }
            }
        }

        /** The row with a set of those there alone, as weighed: what would be to spare. */
        int slackOf(Scene s, int set) {
            fillProps(s);
            for (int p = 0; p < s.people; p++) {
                if ((set & 1 << p) != 0) {
                    row[s.stepOf[p]] += s.isWed(p, set) == 1 ? paired[p] : alone[p];
                }
            }
            return slack(s);
        }

        private void fillProps(Scene s) {
            for (int k = 0; k < s.plan.steps; k++) {
                row[k] = PROP_BEARS * s.propsOn[k];
            }
        }

        /** The least to spare of all rows of steps side by side, by what steps bear as filled. */
        int slack(Scene s) {
            int sum = 0;
            int highest = -FAR;
            int least = FAR;
            for (int k = 0; k < s.plan.steps; k++) {
                highest = Math.max(highest, sum - s.plan.joint[k]);
                sum += row[k] - s.plan.load[k];
                least = Math.min(least, sum + s.plan.joint[k + 1] - highest);
            }
            return least;
        }

        /** The last step of the first crack that begins at a step, or none. */
        int crackFrom(Scene s, int first) {
            int sum = s.plan.joint[first];
            for (int last = first; last < s.plan.steps; last++) {
                sum += row[last] - s.plan.load[last];
                if (sum + s.plan.joint[last + 1] < 0) {
                    return last;
                }
            }
            return NONE;
        }
    }

    /** Deeds done to a scene; each answers 0, or why it can't be. */
    private static final class Deeds {
        private final Scales scales;
        private int seed;
        /** Why the latest doAll() ended ahead of its end, or 0. */
        int why;

        Deeds() {
            scales = new Scales();
        }

        void settle(Scene s) {
            s.fallen = scales.slackLater(s, 0) < 0;
        }

        int seeOne(Scene s, int p) {
            if (!s.isTold(p)) {
                return 1;
            }
            if (s.fallen || !s.isThere(p)) {
                return 2;
            }
            if (s.seen >= s.plan.quota) {
                return 3;
            }
            if (!scales.mayBeSeen(s, p)) {
                return 4;
            }
            s.there &= ~(1 << p);
            s.seen++;
            settle(s);
            return 0;
        }

        int bringOne(Scene s, int k, int build) {
            if (!s.isStep(k) || build < 0 || build >= BUILDS) {
                return 1;
            }
            if (s.fallen || s.people >= PEOPLE) {
                return 2;
            }
            int p = s.people;
            s.stepOf[p] = k;
            s.buildOf[p] = build;
            s.bornOn[p] = s.day;
            s.there |= 1 << p;
            s.people++;
            settle(s);
            return 0;
        }

        int moveOne(Scene s, int p, int k) {
            if (!s.isTold(p) || !s.isStep(k)) {
                return 1;
            }
            if (s.fallen || !s.isThere(p) || Math.abs(s.stepOf[p] - k) != 1) {
                return 2;
            }
            s.stepOf[p] = k;
            settle(s);
            return 0;
        }

        int propOne(Scene s, int k) {
            if (!s.isStep(k)) {
                return 1;
            }
            if (s.fallen || s.propsInAll() >= PROPS) {
                return 2;
            }
            s.propsOn[k]++;
            settle(s);
            return 0;
        }

        int dayGoes(Scene s) {
            if (s.fallen) {
                return 2;
            }
            s.day++;
            s.seen = 0;
            settle(s);
            return 0;
        }

        private int doOne(Scene s, long v) {
            if (v == NONE) {
                return dayGoes(s);
            }
            if (v >= 0 && v <= 9) {
                return seeOne(s, (int) v);
            }
            if (v >= 100 && v <= 199) {
                return moveOne(s, (int) (v - 100) / 10, (int) (v % 10));
            }
            if (v >= 200 && v <= 209) {
                return propOne(s, (int) (v - 200));
            }
            return 1;
        }

        /** Does a tray's deeds till one can't be: how many. */
        int doAll(Scene s, Tray tray) {
            why = 0;
            for (int i = 0; i < tray.size; i++) {
                why = doOne(s, tray.values[i]);
                if (why != 0) {
                    return i;
                }
            }
            return tray.size;
        }

        private int draw() {
            seed = 1103515245 * seed + 12345;
            return seed >>> 16;
        }

        void begin(int firstSeed) {
            seed = firstSeed;
        }

        int drawOne(Scene s) {
            switch (draw() % 5) {
                case 0:
                    return dayGoes(s);
                case 1:
                case 2:
                    return seeOne(s, draw() % 9);
                case 3:
                    int p = draw() % 9;
                    return moveOne(s, p, draw() % 8);
                default:
                    return propOne(s, draw() % 8);
            }
        }
    }

    /** What is asked of all sets of those who are there. */
    private static final class Sets {
        private final Scales scales;
        /** 1 if a set is a holding; in the game how it goes on (see outcome). */
        private final int[] table;

        Sets() {
            scales = new Scales();
            table = new int[SETS];
        }

        void mark(Scene s) {
            scales.weigh(s);
            for (int set = 0; set < SETS; set++) {
                boolean inside = (set & ~s.there) == 0;
                table[set] = inside && scales.slackOf(s, set) >= 0 ? 1 : 0;
            }
        }

        int least(Scene s) {
            mark(s);
            int found = NONE;
            for (int set = 0; set < SETS; set++) {
                if (table[set] == 1 && (found == NONE || Integer.bitCount(set) < Integer.bitCount(found))) {
                    found = set;
                }
            }
            return found;
        }

        int countAll(Scene s) {
            mark(s);
            int sum = 0;
            for (int set = 0; set < SETS; set++) {
                sum += table[set];
            }
            return sum;
        }

        int needs(Scene s) {
            scales.weigh(s);
            if (scales.slackOf(s, s.there) < 0) {
                return 0;
            }
            int found = 0;
            for (int p = 0; p < s.people; p++) {
                if (s.isThere(p) && scales.slackOf(s, s.there & ~(1 << p)) < 0) {
                    found |= 1 << p;
                }
            }
            return found;
        }

        int mostGone(Scene s) {
            mark(s);
            int found = NONE;
            for (int gone = 0; gone < SETS; gone++) {
                if ((gone & ~s.there) == 0 && table[s.there & ~gone] == 1
                        && (found == NONE || Integer.bitCount(gone) > Integer.bitCount(found))) {
                    found = gone;
                }
            }
            return found;
        }

        /** Of the sets of others, as marked: how many are a holding only with p. */
        int turnedBy(Scene s, int p) {
            int others = s.there & ~(1 << p);
            int sum = 0;
            for (int set = 0; set < SETS; set++) {
                if ((set & ~others) == 0 && table[set] == 0 && table[set | 1 << p] == 1) {
                    sum++;
                }
            }
            return sum;
        }

        int greatestShare(Scene s) {
            mark(s);
            int found = NONE;
            int most = -1;
            for (int p = 0; p < s.people; p++) {
                if (s.isThere(p)) {
                    int turned = turnedBy(s, p);
                    if (turned > most) {
                        most = turned;
                        found = p;
                    }
                }
            }
            return found;
        }

        /** How likely a holding is left, in 10 to the number of those there. */
        long chanceAbove(Scene s) {
            scales.weigh(s);
            long sum = 0;
            for (int set = 0; set < SETS; set++) {
                long weight = likelihood(s, set);
                if (weight > 0 && scales.slackOf(s, set) >= 0) {
                    sum += weight;
                }
            }
            return sum;
        }

        /** How likely just this set is left; 0 for one that isn't of those there. */
        static long likelihood(Scene s, int set) {
            if ((set & ~s.there) != 0) {
                return 0;
            }
            long product = 1;
            for (int p = 0; p < s.people; p++) {
                if (s.isThere(p)) {
                    int frail = s.plan.frailOf[p];
                    product *= (set & 1 << p) != 0 ? 10 - frail : frail;
                }
            }
            return product;
        }

        /** The game's outcome for who is to see the next one. */
        int play(Scene s) {
            scales.weigh(s);
            for (int set = 0; set < SETS; set++) {
                boolean inside = (set & ~s.there) == 0;
                table[set] = inside && scales.slackOf(s, set) >= 0 ? outcome(set) : 0;
            }
            return table[s.there];
        }

        /** n: it wins by n more seen; -n - 1: it loses by n more; 0 marks a set that doesn't stand. */
        private int outcome(int set) {
            int quickest = 0;
            int longest = 0;
            for (int p = 0; p < PEOPLE; p++) {
                if ((set & 1 << p) != 0) {
                    int rest = table[set & ~(1 << p)];
                    if (rest >= 0) {
                        longest = Math.max(longest, rest + 1);
                    } else if (quickest == 0 || -rest < quickest) {
                        quickest = -rest;
                    }
                }
            }
            return quickest > 0 ? quickest : -longest - 1;
        }

        int winningMove(Scene s) {
            play(s);
            for (int p = 0; p < s.people; p++) {
                if (s.isThere(p) && table[s.there & ~(1 << p)] < 0) {
                    return p;
                }
            }
            return NONE;
        }
    }

    /** Who can be seen in time. */
    private static final class Service {
        private static final int COUPLES = PEOPLE / 2;

        private final Scales scales;
        /** The days by which, in order: of those who are seen alone, and of couples. */
        private final int[] singleBy;
        private int singles;
        private final int[] coupleBy;
        private int couples;
        /** Per number of couples seen so far: how many single ones at most, or none if it can't be. */
        private int[] reached;
        private int[] onward;

        Service() {
            scales = new Scales();
            singleBy = new int[PEOPLE];
            coupleBy = new int[COUPLES];
            reached = new int[COUPLES + 1];
            onward = new int[COUPLES + 1];
        }

        int greatest(Scene s) {
            scales.weigh(s);
            int wanting = wantToBeSeen(s);
            int found = NONE;
            for (int set = 0; set < SETS; set++) {
                boolean more = found == NONE || Integer.bitCount(set) > Integer.bitCount(found);
                if ((set & ~wanting) == 0 && more && scales.slackOf(s, s.there & ~set) >= 0 && inTime(s, set)) {
                    found = set;
                }
            }
            return found;
        }

        private static int wantToBeSeen(Scene s) {
            int set = 0;
            for (int p = 0; p < s.people; p++) {
                if (s.isThere(p) && s.plan.byOf[p] >= s.day) {
                    set |= 1 << p;
                }
            }
            return set;
        }

        /** Day by day, those with the earliest by first; ten days are enough for nine people and a full first day. */
        private boolean inTime(Scene s, int set) {
            collect(s, set);
            for (int c = 0; c <= COUPLES; c++) {
                reached[c] = c == 0 ? 0 : NONE;
            }
            for (int t = 0; t <= PEOPLE; t++) {
                int room = t == 0 ? s.plan.quota - s.seen : s.plan.quota;
                passDay(s.day + t, room);
            }
            return reached[couples] == singles;
        }

        private void collect(Scene s, int set) {
            singles = 0;
            couples = 0;
            for (int p = 0; p < s.people; p++) {
                if ((set & 1 << p) != 0) {
                    int mate = s.plan.mateOf[p];
                    if (s.isWed(p, set) == 0) {
                        insert(singleBy, singles, s.plan.byOf[p]);
                        singles++;
                    } else if (p < mate && couples < COUPLES) {
                        insert(coupleBy, couples, Math.min(s.plan.byOf[p], s.plan.byOf[mate]));
                        couples++;
                    }
                }
            }
        }

        private static void insert(int[] sorted, int size, int v) {
            int i = Math.min(size, sorted.length - 1);
            for (; i > 0 && sorted[i - 1] > v; i--) {
                sorted[i] = sorted[i - 1];
            }
            sorted[i] = v;
        }

        private void passDay(int day, int room) {
            for (int c = 0; c <= COUPLES; c++) {
                onward[c] = NONE;
            }
            for (int c = 0; c <= couples; c++) {
                if (reached[c] != NONE) {
                    seeThatDay(c, day, room);
                }
            }
            int[] spent = reached;
            reached = onward;
            onward = spent;
        }

        /** Tries every number of couples that day; single ones take all the room that is left. */
        private void seeThatDay(int before, int day, int room) {
            int done = reached[before];
            if (done < singles && singleBy[done] < day) {
                return;
            }
            for (int c = before; c <= couples && 2 * (c - before) <= room; c++) {
                if (c > before && coupleBy[c - 1] < day) {
                    return;
                }
                int now = Math.min(singles, done + room - 2 * (c - before));
                onward[c] = Math.max(onward[c], now);
            }
        }
    }

    /** Which builds a person can have, by what stood and fell. */
    private static final class Rooms {
        private final Scales scales;
        private final boolean[] room;
        private final int[] aloneBy;
        private final int[] pairedBy;

        Rooms() {
            scales = new Scales();
            room = new boolean[BUILDS];
            aloneBy = new int[BUILDS];
            pairedBy = new int[BUILDS];
        }

        int refusal(Scene s, Tray tray, int p) {
            if (tray.size < 1 || tray.size > 10) {
                return TOO_MANY;
            }
            for (int i = 0; i < tray.size; i++) {
                long v = tray.values[i];
                if (v < 0 || v >= 2 * SETS || ((int) (v >> 1) & ~s.there) != 0) {
                    return BAD_NUMBER;
                }
            }
            return s.isThere(p) ? 0 : NOT_NOW;
        }

        /** How many builds agree with all trials. */
        int find(Scene s, Tray tray, int p) {
            scales.weigh(s);
            int found = 0;
            for (int build = 0; build < BUILDS; build++) {
                aloneBy[build] = scales.bearing(s, p, build, 0);
                pairedBy[build] = scales.bearing(s, p, build, 1);
                room[build] = agrees(s, tray, p, build);
                if (room[build]) {
                    found++;
                }
            }
            return found;
        }

        private boolean agrees(Scene s, Tray tray, int p, int build) {
            for (int i = 0; i < tray.size; i++) {
                int out = (int) (tray.values[i] >> 1);
                boolean stood = (tray.values[i] & 1) == 1;
                if (standsBy(s, out, p, build) != stood) {
                    return false;
                }
            }
            return true;
        }

        private boolean standsBy(Scene s, int out, int p, int build) {
            scales.alone[p] = aloneBy[build];
            scales.paired[p] = pairedBy[build];
            return scales.slackOf(s, s.there & ~out) >= 0;
        }

        int first() {
            for (int build = 0; build < BUILDS; build++) {
                if (room[build]) {
                    return build;
                }
            }
            return NONE;
        }

        int last() {
            for (int build = BUILDS - 1; build >= 0; build--) {
                if (room[build]) {
                    return build;
                }
            }
            return NONE;
        }

        int nextOut(Scene s, Tray tray, int p) {
            int all = find(s, tray, p);
            if (all == 0) {
                return NONE;
            }
            int found = NONE;
            int most = -1;
            for (int q = 0; q < s.people; q++) {
                if (q != p && s.isThere(q)) {
                    int stand = standing(s, q, p);
                    int lesser = Math.min(stand, all - stand);
                    if (lesser > most) {
                        most = lesser;
                        found = q;
                    }
                }
            }
            return found;
        }

        private int standing(Scene s, int q, int p) {
            int sum = 0;
            for (int build = 0; build < BUILDS; build++) {
                if (room[build] && standsBy(s, 1 << q, p, build)) {
                    sum++;
                }
            }
            return sum;
        }
    }

    /** How it would be with somebody else, with props, on later days. */
    private static final class WhatIf {
        private final Scales scales;
        /** What one brought to each step would bear. */
        private final int[] brought;
        /** How many props more on each step, by the latest fewestProps(). */
        final int[] more;
        private final int[] upTo;
        private final long[] likely;

        WhatIf() {
            scales = new Scales();
            brought = new int[STEPS];
            more = new int[STEPS];
            upTo = new int[STEPS + 1];
            likely = new long[STEPS];
        }

        int leastInstead(Scene s, int p) {
            scales.weigh(s);
            scales.slackOf(s, s.there & ~(1 << p));
            int k = s.stepOf[p];
            int others = scales.row[k];
            for (int build = 0; build < BUILDS; build++) {
                scales.row[k] = others + scales.newcomer(s, k, build, 0);
                if (scales.slack(s) >= 0) {
                    return build;
                }
            }
            return NONE;
        }

        int bestSwap(Scene s, int build) {
            scales.weigh(s);
            int found = NONE;
            int most = -1;
            for (int p = 0; p < s.people; p++) {
                if (s.isThere(p)) {
                    int k = s.stepOf[p];
                    scales.slackOf(s, s.there & ~(1 << p));
                    scales.row[k] += scales.newcomer(s, k, build, 0);
                    int left = scales.slack(s);
                    if (left > most) {
                        most = left;
                        found = p;
                    }
                }
            }
            return found;
        }

        /**
         * Each row of steps asks for so many props at least. Counted up to each step, the least numbers
         * that fulfil all rows are least at every step at once: the fewest, and the first by steps.
         */
        int fewestProps(Scene s, int set) {
            scales.weigh(s);
            scales.slackOf(s, set);
            upTo[0] = 0;
            for (int last = 0; last < s.plan.steps; last++) {
                int least = upTo[last];
                int lack = -s.plan.joint[last + 1];
                for (int first = last; first >= 0; first--) {
                    lack += s.plan.load[first] - scales.row[first];
                    int asked = propsAgainst(lack - s.plan.joint[first]);
                    least = Math.max(least, upTo[first] + asked);
                }
                upTo[last + 1] = least;
                more[last] = least - upTo[last];
            }
            return upTo[s.plan.steps];
        }

        private static int propsAgainst(int lack) {
            return lack <= 0 ? 0 : (lack + PROP_BEARS - 1) / PROP_BEARS;
        }

        int firstSunk(Scene s) {
            for (int later = 0; later < AHEAD; later++) {
                if (scales.slackLater(s, later) < 0) {
                    return later;
                }
            }
            return NONE;
        }

        int longestStay(Scene s, int build) {
            int still = (1 << s.plan.steps) - 1;
            for (int later = 0; later < AHEAD; later++) {
                // Nobody brought bears less than 0: what stands without it stands with it.
                if (scales.slackLater(s, later) < 0) {
                    bringAll(s, build, later);
                    int left = stepsThatStand(s, still);
                    if (left == 0) {
                        break;
                    }
                    still = left;
                }
            }
            return Integer.numberOfTrailingZeros(still);
        }

        private void bringAll(Scene s, int build, int later) {
            for (int k = 0; k < s.plan.steps; k++) {
                brought[k] = scales.newcomer(s, k, build, later);
            }
        }

        /** Those of some steps to which one brought would let it stand, by what steps bear as filled. */
        private int stepsThatStand(Scene s, int steps) {
            int left = 0;
            for (int k = 0; k < s.plan.steps; k++) {
                if ((steps & 1 << k) != 0) {
                    scales.row[k] += brought[k];
                    if (scales.slack(s) >= 0) {
                        left |= 1 << k;
                    }
                    scales.row[k] -= brought[k];
                }
            }
            return left;
        }

        int likeliestStep(Scene s, int build) {
            scales.weigh(s);
            bringAll(s, build, 0);
            for (int k = 0; k < STEPS; k++) {
                likely[k] = 0;
            }
            int all = (1 << s.plan.steps) - 1;
            for (int set = 0; set < SETS; set++) {
                long weight = Sets.likelihood(s, set);
                // Where it stands anyhow, no step is better than another one.
                if (weight > 0 && scales.slackOf(s, set) < 0) {
                    addWhere(stepsThatStand(s, all), weight);
                }
            }
            int found = 0;
            for (int k = 1; k < s.plan.steps; k++) {
                if (likely[k] > likely[found]) {
                    found = k;
                }
            }
            return found;
        }

        private void addWhere(int steps, long weight) {
            for (int k = 0; k < STEPS; k++) {
                if ((steps & 1 << k) != 0) {
                    likely[k] += weight;
                }
            }
        }
    }

    /** Numbers of one sort; missing while its size is below 0. */
    private static final class Tray {
        private int sort;
        int size;
        final long[] values;

        Tray() {
            size = NONE;
            values = new long[PLACES];
        }

        void begin(int ofSort, int n) {
            sort = ofSort;
            size = n;
            for (int i = 0; i < PLACES; i++) {
                values[i] = 0;
            }
        }

        long put(int i, long v) {
            values[i] = cut(v);
            return values[i];
        }

        private long cut(long v) {
            switch (sort) {
                case 0: return (byte) v;
                case 1: return (short) v;
                case 2: return (int) v;
                default: return v;
            }
        }
    }
}
