/** A small kernel for processes that share nothing; README.md says how to use it. */
public final class ReviveKernel {
    public static final int BAD = -1, BLOCKED = -2, STALE = -3, DENIED = -4, DEADLOCK = -5, NOTHING = -6, FULL = -7;

    private static final int FINE = 0;
    private static final int ANY = -1;

    private static final int SLOTS = 10;
    private static final int ALL_SLOTS = (1 << SLOTS) - 1;
    private static final int ENDPOINT_STEP = 16;
    private static final int LAST_ROW = 3;
    private static final int FULL_TICKS = 4;
    private static final int RELIEF_EVERY = 8;
    private static final int LONGEST_RUN = 100;

    // The states bear the numbers that at() answers; NONE is a slot without a process.
    private static final int NONE = 0, READY = 1, SENDING = 2, RECEIVING = 3, AWAITING = 4;

    private static final int MESSAGE = 0, NOTE = 1, LETTER = 2;

    // Notes are bits in the order in which they are got: slots 0 .. 9, the clock, services 0 .. 2.
    private static final int CLOCK_PLACE = SLOTS;
    private static final int FIRST_SERVICE_PLACE = CLOCK_PLACE + 1;
    private static final int SERVICES = 3;
    private static final int NOTE_PLACES = FIRST_SERVICE_PLACE + SERVICES;
    private static final int CLOCK_SOURCE = -2;

    // A sender has just as many places for letters as may be not yet got: none free is FULL.
    private static final int LETTERS_EACH = 3;
    private static final int LETTER_PLACES = SLOTS * LETTERS_EACH;

    private static final int WORDS = 16;
    private static final int ALL_WORDS = SLOTS * WORDS;
    private static final int GRANTS = 4;
    private static final int ALL_GRANTS = SLOTS * GRANTS;
    private static final int LONGEST_CHAIN = 4;
    private static final int NOT_GRANTED = 0, READ = 1, WRITE = 2, BOTH = 3, PASSED = 4;

    private static final int LEAST_LIFE = 2, MOST_LIFE = 50;
    private static final int FIRST_PAUSE = 1, LONGEST_PAUSE = 8;
    private static final int STEADY = 16;

    // What total() answers for the same number; TOTAL_GOT + sort counts what was got of a sort.
    private static final int TOTAL_TIME = 0, TOTAL_PROCESSES = 1, TOTAL_GOT = 2, TOTAL_ENDED = 5, TOTAL_COPIED = 6;
    private static final int TOTALS = 7;

    private static final int GOT_PARTS = 3;
    private static final int ALL_GOT_PARTS = SLOTS * GOT_PARTS;

    // By slots. Without a process, endpoint is the one that the next process there will have.
    private final int[] endpoint = new int[SLOTS];
    private final int[] state = new int[SLOTS];
    private final int[] partner = new int[SLOTS];
    private final int[] baseRow = new int[SLOTS];
    private final int[] priority = new int[SLOTS];
    private final int[] ticksLeft = new int[SLOTS];
    private final int[] reach = new int[SLOTS];
    private final int[] result = new int[SLOTS];
    private final int[] sentValue = new int[SLOTS];
    private final boolean[] wantsAnswer = new boolean[SLOTS];
    private final int[] noteBits = new int[SLOTS];
    private final int[] alarmLeft = new int[SLOTS];
    private final int[] watchedBits = new int[SLOTS];
    private final int[] latestGot = new int[ALL_GOT_PARTS];
    private final int[] words = new int[ALL_WORDS];

    // Who came earlier, into a row or into a queue, has the lesser number.
    private final long[] since = new long[SLOTS];
    private long comings;

    // By senders; a letter's number in the order of posting is 0 where there is none.
    private final long[] letterOrder = new long[LETTER_PLACES];
    private final int[] letterTo = new int[LETTER_PLACES];
    private final int[] letterValue = new int[LETTER_PLACES];

    // By granters; first and length are of lent ones, source and number of passed ones.
    private final int[] grantKind = new int[ALL_GRANTS];
    private final int[] grantTo = new int[ALL_GRANTS];
    private final int[] grantFirst = new int[ALL_GRANTS];
    private final int[] grantLength = new int[ALL_GRANTS];
    private final int[] grantSource = new int[ALL_GRANTS];
    private final int[] grantNumber = new int[ALL_GRANTS];

    // A service without a life is none; one without a slot (-1) is DOWN.
    private final int[] serviceLife = new int[SERVICES];
    private final int[] serviceSlot = new int[SERVICES];
    private final int[] serviceBase = new int[SERVICES];
    private final int[] servicePause = new int[SERVICES];
    private final int[] serviceDue = new int[SERVICES];
    private final int[] serviceBegun = new int[SERVICES];
    private final int[] serviceBorn = new int[SERVICES];
    private final int[] serviceHeard = new int[SERVICES];

    private final int[] totals = new int[TOTALS];

    public ReviveKernel() {
        for (int slot = 0; slot < SLOTS; slot++) {
            endpoint[slot] = slot;
        }
    }

    public int birth(int base, int mask) {
        if (base < 0 || base > LAST_ROW || mask < 0 || mask > ALL_SLOTS) {
            return BAD;
        }
        int slot = freeSlot();
        if (slot < 0) {
            return FULL;
        }
        beginProcess(slot, base, mask);
        return endpoint[slot];
    }

    public boolean end(int slot) {
        if (!hasProcess(slot)) {
            return false;
        }
        endProcess(slot);
        return true;
    }

    public int leave() {
        int me = runningSlot();
        if (me < 0) {
            return BAD;
        }
        int left = endpoint[me];
        endProcess(me);
        return left;
    }

    public int send(int to, int x) {
        return handMessage(to, x, false);
    }

    public int call(int to, int x) {
        return handMessage(to, x, true);
    }

    public int receive(int from, boolean wait) {
        int me = runningSlot();
        int refused = refusalOrAny(me, from);
        if (refused != FINE) {
            return refused;
        }
        int sort = getFirst(me, from);
        if (sort != NOTHING || !wait) {
            return sort;
        }
        int other = slotOf(from);
        if (other >= 0 && isStuckBehind(other, me)) {
            return DEADLOCK;
        }
        startWaiting(me, RECEIVING, from);
        return BLOCKED;
    }

    public int note(int to) {
        int me = runningSlot();
        int refused = refusalToReach(me, to);
        if (refused != FINE) {
            return refused;
        }
        int other = slotOf(to);
        bringNote(other, me);
        return FINE;
    }

    public int post(int to, int x) {
        int me = runningSlot();
        int refused = refusalToReach(me, to);
        if (refused != FINE) {
            return refused;
        }
        int place = freeLetterPlace(me);
        if (place < 0) {
            return FULL;
        }
        int other = slotOf(to);
        if (takes(other, endpoint[me], LETTER)) {
            putInto(other, endpoint[me], LETTER, x);
            makeReady(other);
            return FINE;
        }
        comings++;
        letterOrder[place] = comings;
        letterTo[place] = other;
        letterValue[place] = x;
        return FINE;
    }

    public int lend(int id, int to, int first, int length, int how) {
        int me = runningSlot();
        if (me < 0 || !isGrantNumber(id) || how < READ || how > BOTH) {
            return BAD;
        }
        if (first < 0 || length < 1 || length > WORDS - first) {
            return BAD;
        }
        int refused = refusalOrAny(me, to);
        if (refused != FINE) {
            return refused;
        }
        int grant = me * GRANTS + id;
        grantKind[grant] = how;
        grantTo[grant] = to;
        grantFirst[grant] = first;
        grantLength[grant] = length;
        return FINE;
    }

    public int pass(int id, int to, int granter, int grant) {
        int me = runningSlot();
        if (me < 0 || !isGrantNumber(id) || !isGrantNumber(grant)) {
            return BAD;
        }
        int refused = refusalOrAny(me, to);
        if (refused == FINE) {
            refused = refusal(me, granter);
        }
        if (refused != FINE) {
            return refused;
        }
        int own = me * GRANTS + id;
        grantKind[own] = PASSED;
        grantTo[own] = to;
        grantSource[own] = granter;
        grantNumber[own] = grant;
        return FINE;
    }

    public int revoke(int id) {
        int me = runningSlot();
        if (me < 0 || !isGrantNumber(id)) {
            return BAD;
        }
        int grant = me * GRANTS + id;
        if (grantKind[grant] == NOT_GRANTED) {
            return NOTHING;
        }
        grantKind[grant] = NOT_GRANTED;
        return FINE;
    }

    public int copy(int granter, int grant, int offset, int at, int n, boolean write) {
        int me = runningSlot();
        if (me < 0 || !isGrantNumber(grant) || n < 1 || n > WORDS || at < 0 || at > WORDS - n) {
            return BAD;
        }
        int refused = refusal(me, granter);
        if (refused != FINE) {
            return refused;
        }
        int lent = followGrants(endpoint[me], granter, grant);
        if (lent < 0) {
            return lent;
        }
        int right = write ? WRITE : READ;
        if (offset < 0 || offset > grantLength[lent] - n || (grantKind[lent] & right) == 0) {
            return DENIED;
        }
        int mine = me * WORDS + at;
        int theirs = lent / GRANTS * WORDS + grantFirst[lent] + offset;
        if (write) {
            moveWords(mine, theirs, n);
        } else {
            moveWords(theirs, mine, n);
        }
        totals[TOTAL_COPIED] += n;
        return FINE;
    }

    public int alarm(int n) {
        int me = runningSlot();
        if (me < 0 || n < 0 || n > LONGEST_RUN) {
            return BAD;
        }
        int before = alarmLeft[me];
        alarmLeft[me] = n;
        return before;
    }

    public int beat() {
        int me = runningSlot();
        if (me < 0) {
            return BAD;
        }
        int k = serviceOf(me);
        if (k < 0) {
            return NOTHING;
        }
        serviceHeard[k] = totals[TOTAL_TIME];
        return k;
    }

    public int watch(int k) {
        int me = runningSlot();
        if (me < 0 || !isServiceNumber(k)) {
            return BAD;
        }
        watchedBits[me] |= 1 << k;
        return FINE;
    }

    public int serve(int k, int base, int life) {
        if (!isServiceNumber(k) || base < 0 || base > LAST_ROW || life < LEAST_LIFE || life > MOST_LIFE) {
            return BAD;
        }
        if (serviceLife[k] != 0) {
            return FULL;
        }
        serviceLife[k] = life;
        serviceSlot[k] = -1;
        serviceBase[k] = base;
        servicePause[k] = FIRST_PAUSE;
        serviceDue[k] = totals[TOTAL_TIME] + 1;
        serviceBegun[k] = 0;
        return FINE;
    }

    public boolean close(int k) {
        if (!isServiceNumber(k) || serviceLife[k] == 0) {
            return false;
        }
        serviceLife[k] = 0;
        return true;
    }

    public int tick(int n) {
        if (n < 1 || n > LONGEST_RUN) {
            return BAD;
        }
        int begun = 0;
        for (int i = 0; i < n; i++) {
            begun += oneTick();
        }
        return begun;
    }

    public boolean poke(int slot, int a, int value) {
        if (!hasProcess(slot) || !isWord(a)) {
            return false;
        }
        words[slot * WORDS + a] = value;
        return true;
    }

    public int memory(int slot, int a) {
        return hasProcess(slot) && isWord(a) ? words[slot * WORDS + a] : 0;
    }

    public int running() {
        int me = runningSlot();
        return me < 0 ? NOTHING : endpoint[me];
    }

    public int at(int slot, int what) {
        if (!hasProcess(slot)) {
            return BAD;
        }
        switch (what) {
            case 0: return endpoint[slot];
            case 1: return state[slot];
            case 2: return partner[slot];
            case 3: return priority[slot];
            case 4: return ticksLeft[slot];
            case 5: return queueLength(slot);
            case 6: return noteCount(slot);
            case 7: return lettersFor(slot);
            case 8: return lettersFrom(slot);
            case 9: return placeInRow(slot);
            case 10: case 11: case 12: return latestGot[slot * GOT_PARTS + what - 10];
            case 13: return result[slot];
            case 14: return alarmLeft[slot];
            default: return BAD;
        }
    }

    public int service(int k, int what) {
        if (!isServiceNumber(k)) {
            return BAD;
        }
        boolean served = serviceLife[k] != 0;
        boolean down = served && serviceSlot[k] < 0;
        if (what == 0) {
            return !served ? 0 : down ? 2 : 1;
        }
        if (!served) {
            return BAD;
        }
        switch (what) {
            case 1: return down ? -1 : endpoint[serviceSlot[k]];
            case 2: return servicePause[k];
            case 3: return serviceBegun[k];
            default: return BAD;
        }
    }

    public int total(int what) {
        return what < 0 || what >= TOTALS ? BAD : totals[what];
    }

    // ---- which processes there are ----

    private boolean hasProcess(int slot) {
        return slot >= 0 && slot < SLOTS && state[slot] != NONE;
    }

    private boolean isWord(int a) {
        return a >= 0 && a < WORDS;
    }

    private boolean isGrantNumber(int id) {
        return id >= 0 && id < GRANTS;
    }

    private boolean isServiceNumber(int k) {
        return k >= 0 && k < SERVICES;
    }

    private int slotOf(int end) {
        int slot = end & (ENDPOINT_STEP - 1);
        return hasProcess(slot) && endpoint[slot] == end ? slot : -1;
    }

    private int freeSlot() {
        for (int slot = 0; slot < SLOTS; slot++) {
            if (state[slot] == NONE) {
                return slot;
            }
        }
        return -1;
    }

    private void beginProcess(int slot, int base, int mask) {
        baseRow[slot] = base;
        priority[slot] = base;
        ticksLeft[slot] = FULL_TICKS;
        reach[slot] = mask;
        result[slot] = 0;
        noteBits[slot] = 0;
        alarmLeft[slot] = 0;
        watchedBits[slot] = 0;
        for (int part = 0; part < GOT_PARTS; part++) {
            latestGot[slot * GOT_PARTS + part] = 0;
        }
        for (int a = 0; a < WORDS; a++) {
            words[slot * WORDS + a] = 0;
        }
        for (int id = 0; id < GRANTS; id++) {
            grantKind[slot * GRANTS + id] = NOT_GRANTED;
        }
        totals[TOTAL_PROCESSES]++;
        makeReady(slot);
    }

    private void endProcess(int slot) {
        int gone = endpoint[slot];
        state[slot] = NONE;
        endpoint[slot] = gone + ENDPOINT_STEP;
        totals[TOTAL_PROCESSES]--;
        totals[TOTAL_ENDED]++;
        dropLetters(slot);
        for (int other = 0; other < SLOTS; other++) {
            noteBits[other] &= ~(1 << slot);
            if (isWaiting(other) && partner[other] == gone) {
                makeReady(other);
                result[other] = STALE;
            }
        }
        int k = serviceOf(slot);
        if (k >= 0) {
            putDown(k);
        }
    }

    private void dropLetters(int slot) {
        for (int place = 0; place < LETTER_PLACES; place++) {
            if (place / LETTERS_EACH == slot || letterTo[place] == slot) {
                letterOrder[place] = 0;
            }
        }
    }

    // ---- being ready, waiting, running ----

    private boolean isWaiting(int slot) {
        return state[slot] == SENDING || state[slot] == RECEIVING || state[slot] == AWAITING;
    }

    private void makeReady(int slot) {
        state[slot] = READY;
        partner[slot] = endpoint[slot];
        comings++;
        since[slot] = comings;
    }

    private void startWaiting(int slot, int how, int whom) {
        state[slot] = how;
        partner[slot] = whom;
        result[slot] = 0;
        comings++;
        since[slot] = comings;
    }

    private void comeIntoRow(int slot, int row) {
        priority[slot] = row;
        // The number of a waiting one is its place in a queue, which a new priority leaves as it is.
        if (state[slot] == READY) {
            comings++;
            since[slot] = comings;
        }
    }

    private int runningSlot() {
        int first = -1;
        for (int slot = 0; slot < SLOTS; slot++) {
            if (state[slot] == READY && (first < 0 || runsBefore(slot, first))) {
                first = slot;
            }
        }
        return first;
    }

    private boolean runsBefore(int one, int other) {
        return priority[one] < priority[other] || priority[one] == priority[other] && since[one] < since[other];
    }

    private int placeInRow(int slot) {
        if (state[slot] != READY) {
            return -1;
        }
        int place = 0;
        for (int other = 0; other < SLOTS; other++) {
            if (state[other] == READY && priority[other] == priority[slot] && since[other] < since[slot]) {
                place++;
            }
        }
        return place;
    }

    private boolean isStuckBehind(int slot, int me) {
        int one = slot;
        // Nobody waits in a circle, so a chain is no longer than there are slots.
        for (int step = 0; step < SLOTS; step++) {
            if (!isWaiting(one)) {
                return false;
            }
            one = slotOf(partner[one]);
            if (one < 0) {
                return false;
            }
            if (one == me) {
                return true;
            }
        }
        return false;
    }

    // ---- what is refused to RUNNING ----

    private int refusal(int me, int other) {
        if (me < 0) {
            return BAD;
        }
        if (slotOf(other) < 0) {
            return STALE;
        }
        return other == endpoint[me] ? BAD : FINE;
    }

    private int refusalOrAny(int me, int other) {
        if (me >= 0 && other == ANY) {
            return FINE;
        }
        return refusal(me, other);
    }

    private int refusalToReach(int me, int to) {
        int refused = refusal(me, to);
        if (refused != FINE) {
            return refused;
        }
        int other = slotOf(to);
        return (reach[me] >> other & 1) == 0 ? DENIED : FINE;
    }

    // ---- messages, notes and letters ----

    private boolean takes(int slot, int source, int sort) {
        if (state[slot] == RECEIVING) {
            return partner[slot] == ANY || partner[slot] == source;
        }
        return state[slot] == AWAITING && partner[slot] == source && sort == MESSAGE;
    }

    private void putInto(int slot, int source, int sort, int value) {
        int got = slot * GOT_PARTS;
        latestGot[got] = source;
        latestGot[got + 1] = sort;
        latestGot[got + 2] = value;
        totals[TOTAL_GOT + sort]++;
    }

    private int handMessage(int to, int x, boolean calls) {
        int me = runningSlot();
        int refused = refusalToReach(me, to);
        if (refused != FINE) {
            return refused;
        }
        int other = slotOf(to);
        if (takes(other, endpoint[me], MESSAGE)) {
            putInto(other, endpoint[me], MESSAGE, x);
            makeReady(other);
            if (!calls) {
                return FINE;
            }
            startWaiting(me, AWAITING, to);
            return BLOCKED;
        }
        if (isStuckBehind(other, me)) {
            return DEADLOCK;
        }
        sentValue[me] = x;
        wantsAnswer[me] = calls;
        startWaiting(me, SENDING, to);
        return BLOCKED;
    }

    private int getFirst(int me, int from) {
        int noted = firstNote(me, from);
        if (noted >= 0) {
            int source = noteSource(noted);
            noteBits[me] &= ~(1 << noted);
            putInto(me, source, NOTE, 0);
            return NOTE;
        }
        int letter = firstLetter(me, from);
        if (letter >= 0) {
            letterOrder[letter] = 0;
            putInto(me, endpoint[letter / LETTERS_EACH], LETTER, letterValue[letter]);
            return LETTER;
        }
        int sender = firstSender(me, from);
        if (sender >= 0) {
            putInto(me, endpoint[sender], MESSAGE, sentValue[sender]);
            releaseSender(sender, endpoint[me]);
            return MESSAGE;
        }
        return NOTHING;
    }

    private void releaseSender(int sender, int receiver) {
        if (wantsAnswer[sender]) {
            startWaiting(sender, AWAITING, receiver);
        } else {
            makeReady(sender);
        }
    }

    private boolean isFrom(int source, int from) {
        return from == ANY || source == from;
    }

    private int noteSource(int place) {
        return place < SLOTS ? endpoint[place] : CLOCK_SOURCE - (place - CLOCK_PLACE);
    }

    private void bringNote(int slot, int place) {
        int source = noteSource(place);
        if (takes(slot, source, NOTE)) {
            putInto(slot, source, NOTE, 0);
            makeReady(slot);
        } else {
            noteBits[slot] |= 1 << place;
        }
    }

    private int firstNote(int me, int from) {
        for (int place = 0; place < NOTE_PLACES; place++) {
            int source = noteSource(place);
            if ((noteBits[me] >> place & 1) != 0 && isFrom(source, from)) {
                return place;
            }
        }
        return -1;
    }

    private int noteCount(int slot) {
        int count = 0;
        for (int place = 0; place < NOTE_PLACES; place++) {
            count += noteBits[slot] >> place & 1;
        }
        return count;
    }

    private int firstLetter(int me, int from) {
        int first = -1;
        for (int place = 0; place < LETTER_PLACES; place++) {
            boolean fits = isLetterFor(place, me) && isFrom(endpoint[place / LETTERS_EACH], from);
            if (fits && (first < 0 || letterOrder[place] < letterOrder[first])) {
                first = place;
            }
        }
        return first;
    }

    private boolean isLetterFor(int place, int slot) {
        return letterOrder[place] != 0 && letterTo[place] == slot;
    }

    private int freeLetterPlace(int me) {
        for (int i = 0; i < LETTERS_EACH; i++) {
            int place = me * LETTERS_EACH + i;
            if (letterOrder[place] == 0) {
                return place;
            }
        }
        return -1;
    }

    private int lettersFor(int slot) {
        int count = 0;
        for (int place = 0; place < LETTER_PLACES; place++) {
            if (isLetterFor(place, slot)) {
                count++;
            }
        }
        return count;
    }

    private int lettersFrom(int slot) {
        int count = 0;
        for (int i = 0; i < LETTERS_EACH; i++) {
            if (letterOrder[slot * LETTERS_EACH + i] != 0) {
                count++;
            }
        }
        return count;
    }

    private boolean isInQueue(int sender, int slot) {
        return state[sender] == SENDING && partner[sender] == endpoint[slot];
    }

    private int firstSender(int me, int from) {
        int first = -1;
        for (int sender = 0; sender < SLOTS; sender++) {
            boolean fits = isInQueue(sender, me) && isFrom(endpoint[sender], from);
            if (fits && (first < 0 || since[sender] < since[first])) {
                first = sender;
            }
        }
        return first;
    }

    private int queueLength(int slot) {
        int count = 0;
        for (int sender = 0; sender < SLOTS; sender++) {
            if (isInQueue(sender, slot)) {
                count++;
            }
        }
        return count;
    }

    // ---- grants ----

    /** The lent grant at the end of the chain, or STALE or DENIED (both less than 0). */
    private int followGrants(int reader, int granter, int number) {
        int taker = reader;
        int giver = granter;
        int id = number;
        for (int step = 0; step < LONGEST_CHAIN; step++) {
            int slot = slotOf(giver);
            if (slot < 0) {
                return STALE;
            }
            int grant = slot * GRANTS + id;
            if (grantKind[grant] == NOT_GRANTED || grantTo[grant] != ANY && grantTo[grant] != taker) {
                return DENIED;
            }
            if (grantKind[grant] != PASSED) {
                return grant;
            }
            taker = giver;
            giver = grantSource[grant];
            id = grantNumber[grant];
        }
        return DENIED;
    }

    /** A chain may lead back to RUNNING's own memory, so the parts may overlap: no word is written before it is read. */
    private void moveWords(int from, int to, int n) {
        if (from > to) {
            for (int i = 0; i < n; i++) {
                words[to + i] = words[from + i];
            }
        } else {
            for (int i = n - 1; i >= 0; i--) {
                words[to + i] = words[from + i];
            }
        }
    }

    // ---- time and services ----

    private int oneTick() {
        totals[TOTAL_TIME]++;
        ageRunning();
        if (totals[TOTAL_TIME] % RELIEF_EVERY == 0) {
            relieveAll();
        }
        ringAlarms();
        int begun = 0;
        for (int k = 0; k < SERVICES; k++) {
            if (stepService(k)) {
                begun++;
                tellWatchers(k);
            }
        }
        return begun;
    }

    private void ageRunning() {
        int me = runningSlot();
        if (me < 0) {
            return;
        }
        ticksLeft[me]--;
        if (ticksLeft[me] == 0) {
            ticksLeft[me] = FULL_TICKS;
            int row = priority[me] < LAST_ROW ? priority[me] + 1 : LAST_ROW;
            comeIntoRow(me, row);
        }
    }

    private void relieveAll() {
        for (int slot = 0; slot < SLOTS; slot++) {
            if (state[slot] != NONE && priority[slot] > baseRow[slot]) {
                comeIntoRow(slot, priority[slot] - 1);
            }
        }
    }

    private void ringAlarms() {
        for (int slot = 0; slot < SLOTS; slot++) {
            if (state[slot] != NONE && alarmLeft[slot] > 0) {
                alarmLeft[slot]--;
                if (alarmLeft[slot] == 0) {
                    bringNote(slot, CLOCK_PLACE);
                }
            }
        }
    }

    private int serviceOf(int slot) {
        for (int k = 0; k < SERVICES; k++) {
            if (serviceLife[k] != 0 && serviceSlot[k] == slot) {
                return k;
            }
        }
        return -1;
    }

    private void putDown(int k) {
        int time = totals[TOTAL_TIME];
        if (time - serviceBorn[k] >= STEADY) {
            servicePause[k] = FIRST_PAUSE;
        }
        serviceSlot[k] = -1;
        serviceDue[k] = time + servicePause[k];
        servicePause[k] = servicePause[k] * 2 < LONGEST_PAUSE ? servicePause[k] * 2 : LONGEST_PAUSE;
    }

    /** Whether it began: a service that falls silent here is due at a later tick only, as no pause is 0. */
    private boolean stepService(int k) {
        int time = totals[TOTAL_TIME];
        if (serviceLife[k] == 0) {
            return false;
        }
        if (serviceSlot[k] >= 0) {
            if (time - serviceHeard[k] >= serviceLife[k]) {
                endProcess(serviceSlot[k]);
            }
            return false;
        }
        int slot = freeSlot();
        if (time < serviceDue[k] || slot < 0) {
            return false;
        }
        beginProcess(slot, serviceBase[k], ALL_SLOTS);
        serviceSlot[k] = slot;
        serviceBorn[k] = time;
        serviceHeard[k] = time;
        serviceBegun[k]++;
        return true;
    }

    private void tellWatchers(int k) {
        for (int slot = 0; slot < SLOTS; slot++) {
            if (state[slot] != NONE && (watchedBits[slot] >> k & 1) != 0) {
                bringNote(slot, FIRST_SERVICE_PLACE + k);
            }
        }
    }
}
