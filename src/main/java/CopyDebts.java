import java.util.Arrays;

/** A memory whose copies are promised first and paid later. README.md tells how to use it. */
public final class CopyDebts {
    public static final int NONE = -1;

    private static final int MAX_PLACES = 96;
    private static final int MAX_BAND = 20;
    private static final int MAX_BYTE = 255;
    private static final int MAX_TICKS = 100;
    private static final int MAX_CHANGES = 8;
    private static final int SLOTS = 2;

    private static final int BUFFER_BYTES = 700;
    private static final int APPENDED_BYTES = 20;

    // The settings, by the numbers that setting and setSetting take.
    private static final int BAND = 0;
    private static final int LIMIT = 1;
    private static final int POLICY = 2;
    private static final int RULE_SHORT = 3;
    private static final int RULE_SETTLE = 4;
    private static final int SETTINGS = 5;

    private static final int POLICY_OLDEST = 0;
    private static final int POLICY_MOST_HOPS = 2;
    private static final int POLICY_FEWEST_HOPS = 3;
    private static final int POLICIES = 4;

    // The accounts, by the numbers that account takes.
    private static final int PROMISES = 0;
    private static final int LENGTHS = 1;
    private static final int IDLE_PAYMENTS = 2;
    private static final int FORCED_PAYMENTS = 3;
    private static final int PAYMENTS_AT_ONCE = 4;
    private static final int DROPPED_PLACES = 5;
    private static final int FETCHED_HOPS = 6;
    private static final int COST = 7;
    private static final int FETCHES = 8;
    private static final int ACCOUNTS = 9;

    // The kinds of events.
    private static final int PROMISED = 0;
    private static final int PAID_IDLE = 1;
    private static final int PAID_FORCED = 2;
    private static final int PAID_AT_ONCE = 3;
    private static final int DROPPED = 4;
    private static final int EVENT_PARTS = 3;
    private static final int MAX_EVENTS = 80;

    // The properties of a debt.
    private static final int DEBT_FIRST = 0;
    private static final int DEBT_SOURCE = 1;
    private static final int DEBT_LENGTH = 2;
    private static final int DEBT_PROMISE = 3;

    private final Engine live = new Engine();
    private final Engine trial = new Engine();
    private final Reader reader = new Reader();
    private final History history = new History();
    private final Memory[] slots = new Memory[SLOTS];
    private final Text text = new Text();

    public CopyDebts() {
        for (int slot = 0; slot < SLOTS; slot++) {
            slots[slot] = new Memory();
        }
    }

    // ---- input

    public int append(int a, int b, int c, int d, int e) {
        if (!reader.hasRoom(APPENDED_BYTES)) {
            return NONE;
        }
        reader.takeWord(a);
        reader.takeWord(b);
        reader.takeWord(c);
        reader.takeWord(d);
        reader.takeWord(e);
        return reader.filled;
    }

    public int load(int n) throws IndexOutOfBoundsException, IllegalArgumentException {
        if (n < 0 || n > reader.filled) {
            throw new IndexOutOfBoundsException("there are not so many bytes");
        }
        if (!reader.parse(n)) {
            throw new IllegalArgumentException("the text has an error");
        }
        live.memory.takeFrom(reader.engine.memory);
        history.forget();
        for (int slot = 0; slot < SLOTS; slot++) {
            slots[slot].clear();
        }
        return live.memory.places;
    }

    public int parseError() {
        return reader.error;
    }

    public int errorPosition() {
        return reader.errorAt;
    }

    public int buffered() {
        return reader.filled;
    }

    // ---- places

    public int size() {
        return live.memory.places;
    }

    public int setting(int what) throws IllegalStateException, IllegalArgumentException {
        needMemory();
        needPart(what, SETTINGS);
        return live.memory.settings[what];
    }

    public int stored(int place) throws IllegalStateException, IndexOutOfBoundsException {
        needMemory();
        needPlace(place);
        return live.memory.bytes[place];
    }

    public int value(int place) throws IllegalStateException, IndexOutOfBoundsException {
        needMemory();
        needPlace(place);
        return live.memory.valueOf(place);
    }

    public int source(int place) throws IllegalStateException, IndexOutOfBoundsException {
        needMemory();
        needPlace(place);
        return live.memory.sources[place];
    }

    public int promise(int place) throws IllegalStateException, IndexOutOfBoundsException {
        needMemory();
        needPlace(place);
        return live.memory.promises[place];
    }

    public int hops(int place) throws IllegalStateException, IndexOutOfBoundsException {
        needMemory();
        needPlace(place);
        return live.memory.hopsOf(place);
    }

    public int root(int place) throws IllegalStateException, IndexOutOfBoundsException {
        needMemory();
        needPlace(place);
        return live.memory.rootOf(place);
    }

    public boolean isLocked(int place) throws IllegalStateException, IndexOutOfBoundsException {
        needMemory();
        needPlace(place);
        return live.memory.locks[place];
    }

    public int dependents(int place, boolean all) throws IllegalStateException, IndexOutOfBoundsException {
        needMemory();
        needPlace(place);
        Memory memory = live.memory;
        int found = 0;
        for (int p = 0; p < memory.places; p++) {
            boolean counts = all ? memory.hopsBetween(p, place) > 0 : memory.sources[p] == place;
            if (counts) {
                found++;
            }
        }
        return found;
    }

    // ---- debts

    public int owed() throws IllegalStateException {
        needMemory();
        return live.memory.countOwed();
    }

    public int owedIn(int first, int last)
            throws IllegalStateException, IndexOutOfBoundsException, IllegalArgumentException {
        needMemory();
        needRow(first, last);
        return live.memory.countOwedIn(first, last);
    }

    public int firstOwed(int place) throws IllegalStateException, IndexOutOfBoundsException {
        needMemory();
        needPlace(place);
        Memory memory = live.memory;
        for (int p = place; p < memory.places; p++) {
            if (memory.owes(p)) {
                return p;
            }
        }
        return NONE;
    }

    public int debts() throws IllegalStateException {
        needMemory();
        Memory memory = live.memory;
        int found = 0;
        for (int p = 0; p < memory.places; p++) {
            if (memory.startsDebt(p)) {
                found++;
            }
        }
        return found;
    }

    public int debt(int k, int what)
            throws IllegalStateException, IndexOutOfBoundsException, IllegalArgumentException {
        needMemory();
        Memory memory = live.memory;
        int first = memory.firstOfDebt(k);
        if (first == NONE) {
            throw new IndexOutOfBoundsException("there is no such debt");
        }
        switch (what) {
            case DEBT_FIRST:
                return first;
            case DEBT_SOURCE:
                return memory.sources[first];
            case DEBT_LENGTH:
                return memory.lengthOfDebt(first);
            case DEBT_PROMISE:
                return memory.promises[first];
            default:
                throw new IllegalArgumentException("there is no such part");
        }
    }

    public int most() throws IllegalStateException {
        needMemory();
        int deepest = live.placeFor(POLICY_MOST_HOPS);
        return deepest == NONE ? 0 : live.memory.hopsOf(deepest);
    }

    public int deepest() throws IllegalStateException {
        needMemory();
        return live.placeFor(POLICY_MOST_HOPS);
    }

    public int distance(int place, int other) throws IllegalStateException, IndexOutOfBoundsException {
        needMemory();
        needPlace(place);
        needPlace(other);
        return live.memory.hopsBetween(place, other);
    }

    public int oldest() throws IllegalStateException {
        needMemory();
        int place = live.placeFor(POLICY_OLDEST);
        return place == NONE ? NONE : live.memory.promises[place];
    }

    public int creditors() throws IllegalStateException {
        needMemory();
        Memory memory = live.memory;
        int found = 0;
        for (int p = 0; p < memory.places; p++) {
            if (memory.isSource(p)) {
                found++;
            }
        }
        return found;
    }

    public int next() throws IllegalStateException {
        needMemory();
        return live.placeFor(live.memory.settings[POLICY]);
    }

    public int stale() throws IllegalStateException {
        needMemory();
        Memory memory = live.memory;
        int found = 0;
        for (int p = 0; p < memory.places; p++) {
            if (memory.bytes[p] != memory.valueOf(p)) {
                found++;
            }
        }
        return found;
    }

    // ---- values of ranges

    public int sum(int first, int last)
            throws IllegalStateException, IndexOutOfBoundsException, IllegalArgumentException {
        needMemory();
        needRow(first, last);
        int total = 0;
        for (int p = first; p <= last; p++) {
            total += live.memory.valueOf(p);
        }
        return total;
    }

    public int find(int value, int place)
            throws IllegalStateException, IndexOutOfBoundsException, IllegalArgumentException {
        needMemory();
        needPlace(place);
        needByte(value);
        Memory memory = live.memory;
        for (int p = place; p < memory.places; p++) {
            if (memory.valueOf(p) == value) {
                return p;
            }
        }
        return NONE;
    }

    public boolean same(int first, int second, int length)
            throws IllegalStateException, IndexOutOfBoundsException, IllegalArgumentException {
        needMemory();
        needPlace(first);
        needPlace(second);
        Memory memory = live.memory;
        if (length < 1 || !memory.hasRow(first, length) || !memory.hasRow(second, length)) {
            throw new IllegalArgumentException("there is no such row");
        }
        for (int i = 0; i < length; i++) {
            if (memory.valueOf(first + i) != memory.valueOf(second + i)) {
                return false;
            }
        }
        return true;
    }

    public long checksum() throws IllegalStateException {
        needMemory();
        Memory memory = live.memory;
        long total = 17;
        for (int p = 0; p < memory.places; p++) {
            total = total * 31 + memory.valueOf(p);
        }
        return total;
    }

    // ---- what-if questions

    public int whyCopy(int from, int to, int length) throws IllegalStateException {
        needMemory();
        return live.memory.refusalOf(from, to, length);
    }

    public int forcedByCopy(int from, int to, int length)
            throws IllegalStateException, IllegalArgumentException {
        needMemory();
        tryCopy(from, to, length);
        return addedTo(FORCED_PAYMENTS);
    }

    public int owedIfCopy(int from, int to, int length)
            throws IllegalStateException, IllegalArgumentException {
        needMemory();
        tryCopy(from, to, length);
        return trial.memory.countOwed();
    }

    public int costOfCopy(int from, int to, int length)
            throws IllegalStateException, IllegalArgumentException {
        needMemory();
        tryCopy(from, to, length);
        return addedTo(COST);
    }

    public int forcedByWrite(int place)
            throws IllegalStateException, IndexOutOfBoundsException, IllegalArgumentException {
        needMemory();
        needPlace(place);
        needUnlocked(place, place);
        startTrial();
        return trial.fillRow(place, place, 0);
    }

    public int forcedByFill(int first, int last)
            throws IllegalStateException, IndexOutOfBoundsException, IllegalArgumentException {
        needMemory();
        needRow(first, last);
        needUnlocked(first, last);
        startTrial();
        return trial.fillRow(first, last, 0);
    }

    public int ticksToClear() throws IllegalStateException {
        needMemory();
        return live.ticksFor(live.memory.countOwed());
    }

    public int owedAfter(int ticks) throws IllegalStateException, IllegalArgumentException {
        needMemory();
        needTicks(ticks);
        int left = live.memory.countOwed() - ticks * live.memory.settings[BAND];
        return Math.max(left, 0);
    }

    public int paidIn(int place) throws IllegalStateException, IndexOutOfBoundsException {
        needMemory();
        needPlace(place);
        startTrial();
        return live.ticksFor(trial.payUntilPaid(place));
    }

    public int bestPolicy() throws IllegalStateException {
        needMemory();
        int best = 0;
        int fewest = 0;
        for (int policy = 0; policy < POLICIES; policy++) {
            startTrial();
            trial.memory.settings[POLICY] = policy;
            trial.passTicks(1);
            int left = trial.sumOfHops();
            if (policy == 0 || left < fewest) {
                best = policy;
                fewest = left;
            }
        }
        return best;
    }

    // ---- accounts, events and texts

    public int account(int what) throws IllegalStateException, IllegalArgumentException {
        needMemory();
        needPart(what, ACCOUNTS);
        return live.memory.accounts[what];
    }

    public double meanHops() throws IllegalStateException {
        needMemory();
        int fetches = live.memory.accounts[FETCHES];
        if (fetches == 0) {
            return 0.0;
        }
        return (double) live.memory.accounts[FETCHED_HOPS] / (double) fetches;
    }

    public float idleShare() throws IllegalStateException {
        needMemory();
        int[] accounts = live.memory.accounts;
        int idle = accounts[IDLE_PAYMENTS];
        int all = idle + accounts[FORCED_PAYMENTS] + accounts[PAYMENTS_AT_ONCE];
        if (all == 0) {
            return 0.0f;
        }
        return (float) idle / (float) all;
    }

    public int events() {
        return live.memory.eventCount;
    }

    public int event(int k, int what)
            throws IllegalStateException, IndexOutOfBoundsException, IllegalArgumentException {
        needMemory();
        if (k < 0 || k >= live.memory.eventCount) {
            throw new IndexOutOfBoundsException("there is no such event");
        }
        needPart(what, EVENT_PARTS);
        return live.memory.events[k * EVENT_PARTS + what];
    }

    public int writeDebts() throws IllegalStateException {
        needMemory();
        Memory memory = live.memory;
        text.clear();
        for (int p = 0; p < memory.places; p++) {
            if (memory.startsDebt(p)) {
                writeDebt(p);
            }
        }
        if (text.length == 0) {
            text.addSign('-');
        }
        return text.length;
    }

    public int writeChain(int place) throws IllegalStateException, IndexOutOfBoundsException {
        needMemory();
        needPlace(place);
        Memory memory = live.memory;
        text.clear();
        text.addNumber(place);
        int at = place;
        for (int k = 0; k < MAX_PLACES && memory.owes(at); k++) {
            at = memory.sources[at];
            text.addSign('<');
            text.addNumber(at);
        }
        text.addSign('=');
        text.addNumber(memory.valueOf(place));
        return text.length;
    }

    public int textByte(int i) throws IndexOutOfBoundsException {
        if (i < 0 || i >= text.length) {
            throw new IndexOutOfBoundsException("there is no such byte");
        }
        return text.signs[i];
    }

    // ---- changes (each can be undone, the latest one first)

    public int copy(int from, int to, int length)
            throws IllegalStateException, IllegalArgumentException {
        needMemory();
        needCopy(from, to, length);
        history.remember(live.memory);
        return live.makeCopy(from, to, length);
    }

    public int write(int place, int value)
            throws IllegalStateException, IndexOutOfBoundsException, IllegalArgumentException {
        needMemory();
        needPlace(place);
        needByte(value);
        needUnlocked(place, place);
        history.remember(live.memory);
        return live.fillRow(place, place, value);
    }

    public int fill(int first, int last, int value)
            throws IllegalStateException, IndexOutOfBoundsException, IllegalArgumentException {
        needMemory();
        needRow(first, last);
        needByte(value);
        needUnlocked(first, last);
        history.remember(live.memory);
        return live.fillRow(first, last, value);
    }

    public int exchange(int first, int second)
            throws IllegalStateException, IndexOutOfBoundsException, IllegalArgumentException {
        needMemory();
        needPlace(first);
        needPlace(second);
        if (first == second) {
            throw new IllegalArgumentException("both places are the same");
        }
        needUnlocked(first, first);
        needUnlocked(second, second);
        history.remember(live.memory);
        return live.swapPlaces(first, second);
    }

    public int move(int from, int to, int length)
            throws IllegalStateException, IllegalArgumentException {
        needMemory();
        needCopy(from, to, length);
        int firstLeft = to < from ? Math.max(from, to + length) : from;
        int lastLeft = to > from ? Math.min(from + length, to) - 1 : from + length - 1;
        boolean leaves = from != to;
        if (leaves) {
            needUnlocked(firstLeft, lastLeft);
        }
        history.remember(live.memory);
        int number = live.makeCopy(from, to, length);
        if (leaves) {
            live.fillRow(firstLeft, lastLeft, 0);
        }
        return number;
    }

    public int fetch(int place) throws IllegalStateException, IndexOutOfBoundsException {
        needMemory();
        needPlace(place);
        history.remember(live.memory);
        return live.fetchPlace(place);
    }

    public int tick(int ticks) throws IllegalStateException, IllegalArgumentException {
        needMemory();
        needTicks(ticks);
        history.remember(live.memory);
        return live.passTicks(ticks);
    }

    public int payRange(int first, int last)
            throws IllegalStateException, IndexOutOfBoundsException, IllegalArgumentException {
        needMemory();
        needRow(first, last);
        history.remember(live.memory);
        return live.payRow(first, last);
    }

    public int shorten(int place)
            throws IllegalStateException, IndexOutOfBoundsException, IllegalArgumentException {
        needMemory();
        needPlace(place);
        if (!live.memory.owes(place)) {
            throw new IllegalArgumentException("the place does not owe");
        }
        history.remember(live.memory);
        int hops = live.memory.hopsOf(place);
        live.memory.sources[place] = live.memory.rootOf(place);
        return hops - 1;
    }

    public int setLock(int place, boolean locked) throws IllegalStateException, IndexOutOfBoundsException {
        needMemory();
        needPlace(place);
        history.remember(live.memory);
        if (locked) {
            return live.lockRow(place, place);
        }
        live.memory.locks[place] = false;
        return 0;
    }

    public int setSetting(int what, int value) throws IllegalStateException, IllegalArgumentException {
        needMemory();
        needPart(what, SETTINGS);
        if (value < leastSetting(what) || value > greatestSetting(what)) {
            throw new IllegalArgumentException("the setting can not have this value");
        }
        history.remember(live.memory);
        int previous = live.memory.settings[what];
        live.memory.settings[what] = value;
        live.keepLimit();
        return previous;
    }

    public int undo() throws IllegalStateException {
        if (history.count == 0) {
            throw new IllegalStateException("there is no change to undo");
        }
        history.goBack(live.memory);
        return history.count;
    }

    public int undoable() {
        return history.count;
    }

    public int save(int slot) throws IllegalStateException, IndexOutOfBoundsException {
        needMemory();
        needSlot(slot);
        slots[slot].takeFrom(live.memory);
        return live.memory.countOwed();
    }

    public int restore(int slot) throws IndexOutOfBoundsException, IllegalStateException {
        needSlot(slot);
        if (slots[slot].places == 0) {
            throw new IllegalStateException("nothing is saved there");
        }
        live.memory.takeFrom(slots[slot]);
        history.forget();
        return live.memory.countOwed();
    }

    // ---- what the calls need

    private void needMemory() {
        if (live.memory.places == 0) {
            throw new IllegalStateException("there is no memory");
        }
    }

    private void needPlace(int place) {
        if (!live.memory.isPlace(place)) {
            throw new IndexOutOfBoundsException("there is no such place");
        }
    }

    private void needRow(int first, int last) {
        needPlace(first);
        needPlace(last);
        if (last < first) {
            throw new IllegalArgumentException("the last place is less than the first");
        }
    }

    private void needPart(int what, int parts) {
        if (what < 0 || what >= parts) {
            throw new IllegalArgumentException("there is no such part");
        }
    }

    private void needByte(int value) {
        if (value < 0 || value > MAX_BYTE) {
            throw new IllegalArgumentException("the value is no byte");
        }
    }

    private void needTicks(int ticks) {
        if (ticks < 1 || ticks > MAX_TICKS) {
            throw new IllegalArgumentException("there can not be so many ticks");
        }
    }

    private void needUnlocked(int first, int last) {
        if (live.memory.hasLockIn(first, last)) {
            throw new IllegalArgumentException("a place is locked");
        }
    }

    private void needCopy(int from, int to, int length) {
        if (live.memory.refusalOf(from, to, length) != 0) {
            throw new IllegalArgumentException("the copy is impossible");
        }
    }

    private void needSlot(int slot) {
        if (slot < 0 || slot >= SLOTS) {
            throw new IndexOutOfBoundsException("there is no such slot");
        }
    }

    private void startTrial() {
        trial.memory.takeFrom(live.memory);
    }

    private void tryCopy(int from, int to, int length) {
        needCopy(from, to, length);
        startTrial();
        trial.makeCopy(from, to, length);
    }

    private int addedTo(int account) {
        return trial.memory.accounts[account] - live.memory.accounts[account];
    }

    private void writeDebt(int first) {
        if (text.length > 0) {
            text.addSign(',');
        }
        text.addNumber(first);
        text.addSign('x');
        text.addNumber(live.memory.lengthOfDebt(first));
        text.addSign('<');
        text.addNumber(live.memory.sources[first]);
    }

    private static int leastSetting(int what) {
        return what == BAND ? 1 : 0;
    }

    private static int greatestSetting(int what) {
        switch (what) {
            case BAND:
                return MAX_BAND;
            case LIMIT:
                return MAX_PLACES;
            case POLICY:
                return POLICIES - 1;
            default:
                return 1;
        }
    }

    /** All that is saved, restored and undone, and what can be told of it without changing it. */
    private static final class Memory {
        final int[] bytes = new int[MAX_PLACES];
        final int[] sources = new int[MAX_PLACES];
        final int[] promises = new int[MAX_PLACES];
        final boolean[] locks = new boolean[MAX_PLACES];
        final int[] settings = new int[SETTINGS];
        final int[] accounts = new int[ACCOUNTS];
        final int[] events = new int[MAX_EVENTS * EVENT_PARTS];
        /** SIZE; 0 stands for no memory at all. */
        int places;
        int eventCount;

        void clear() {
            Arrays.fill(bytes, 0);
            Arrays.fill(sources, NONE);
            Arrays.fill(promises, NONE);
            for (int p = 0; p < MAX_PLACES; p++) {
                locks[p] = false;
            }
            Arrays.fill(settings, 0);
            Arrays.fill(accounts, 0);
            places = 0;
            eventCount = 0;
        }

        void takeFrom(Memory other) {
            System.arraycopy(other.bytes, 0, bytes, 0, MAX_PLACES);
            System.arraycopy(other.sources, 0, sources, 0, MAX_PLACES);
            System.arraycopy(other.promises, 0, promises, 0, MAX_PLACES);
            for (int p = 0; p < MAX_PLACES; p++) {
                locks[p] = other.locks[p];
            }
            System.arraycopy(other.settings, 0, settings, 0, SETTINGS);
            System.arraycopy(other.accounts, 0, accounts, 0, ACCOUNTS);
            System.arraycopy(other.events, 0, events, 0, MAX_EVENTS * EVENT_PARTS);
            places = other.places;
            eventCount = other.eventCount;
        }

        boolean isPlace(int place) {
            return place >= 0 && place < places;
        }

        /** Written without first + length, which could wrap. */
        boolean hasRow(int first, int length) {
            return isPlace(first) && length <= places - first;
        }

        boolean owes(int place) {
            return place >= 0 && place < places && sources[place] != NONE;
        }

        int rootOf(int place) {
            int at = place;
            for (int k = 0; k < MAX_PLACES && sources[at] != NONE; k++) {
                at = sources[at];
            }
            return at;
        }

        int hopsOf(int place) {
            return hopsBetween(place, rootOf(place));
        }

        int valueOf(int place) {
            return bytes[rootOf(place)];
        }

        int hopsBetween(int place, int other) {
            int at = place;
            for (int k = 0; k < MAX_PLACES; k++) {
                if (at == other) {
                    return k;
                }
                if (!owes(at)) {
                    return NONE;
                }
                at = sources[at];
            }
            return NONE;
        }

        int countOwed() {
            return countOwedIn(0, places - 1);
        }

        int countOwedIn(int first, int last) {
            int found = 0;
            for (int p = first; p <= last; p++) {
                if (sources[p] != NONE) {
                    found++;
                }
            }
            return found;
        }

        boolean isSource(int place) {
            for (int p = 0; p < places; p++) {
                if (sources[p] == place) {
                    return true;
                }
            }
            return false;
        }

        boolean hasLockIn(int first, int last) {
            for (int p = first; p <= last; p++) {
                if (isPlace(p) && locks[p]) {
                    return true;
                }
            }
            return false;
        }

        /** The first reason for which a copy is impossible; 0 if it is possible. */
        int refusalOf(int from, int to, int length) {
            if (length < 1) {
                return 1;
            }
            if (!hasRow(from, length) || !hasRow(to, length)) {
                return 2;
            }
            return hasLockIn(to, to + length - 1) ? 3 : 0;
        }

        /** Tells whether a place goes on with the debt of the place ahead of it. */
        boolean continuesDebt(int place) {
            return owes(place) && owes(place - 1)
                    && promises[place] == promises[place - 1]
                    && sources[place] == sources[place - 1] + 1;
        }

        boolean startsDebt(int place) {
            return owes(place) && !continuesDebt(place);
        }

        int firstOfDebt(int number) {
            int found = 0;
            for (int p = 0; p < places; p++) {
                if (startsDebt(p)) {
                    if (found == number) {
                        return p;
                    }
                    found++;
                }
            }
            return NONE;
        }

        int lengthOfDebt(int first) {
            int length = 1;
            while (length < MAX_PLACES && continuesDebt(first + length)) {
                length++;
            }
            return length;
        }

        void endDebt(int place) {
            sources[place] = NONE;
            promises[place] = NONE;
        }

        void countPayment(int kind) {
            switch (kind) {
                case PAID_IDLE:
                    accounts[IDLE_PAYMENTS]++;
                    accounts[COST] += 1;
                    break;
                case PAID_FORCED:
                    accounts[FORCED_PAYMENTS]++;
                    accounts[COST] += 3;
                    break;
                default:
                    accounts[PAYMENTS_AT_ONCE]++;
                    accounts[COST] += 2;
                    break;
            }
        }

        void note(int kind, int place, int number) {
            if (eventCount >= MAX_EVENTS) {
                return;
            }
            int at = eventCount * EVENT_PARTS;
            events[at] = kind;
            events[at + 1] = place;
            events[at + 2] = number;
            eventCount++;
        }
    }

    /** A memory together with what is done to it. */
    private static final class Engine {
        final Memory memory = new Memory();
        /** The places that a copy or a writing gives new bytes, while it is done. */
        private final boolean[] touched = new boolean[MAX_PLACES];
        private final int[] carried = new int[MAX_PLACES];
        private final int[] depths = new int[MAX_PLACES];

        int makeCopy(int from, int to, int length) {
            int number = memory.accounts[PROMISES];
            memory.accounts[PROMISES]++;
            memory.accounts[LENGTHS] += length;
            memory.note(PROMISED, to, length);
            touchRow(to, to + length - 1);
            payDependents();
            // The values are taken while the targets still owe: a target can owe to another one.
            for (int i = 0; i < length; i++) {
                carried[i] = memory.valueOf(from + i);
            }
            dropTouched();
            for (int i = 0; i < length; i++) {
                if (touched[from + i]) {
                    memory.bytes[to + i] = carried[i];
                    memory.note(PAID_AT_ONCE, to + i, carried[i]);
                    memory.countPayment(PAID_AT_ONCE);
                } else {
                    owe(to + i, from + i, number);
                }
            }
            keepLimit();
            return number;
        }

        private void owe(int place, int source, int number) {
            boolean isShort = memory.settings[RULE_SHORT] == 1;
            memory.sources[place] = isShort ? memory.rootOf(source) : source;
            memory.promises[place] = number;
        }

        int fillRow(int first, int last, int value) {
            touchRow(first, last);
            int forced = payDependents();
            dropTouched();
            for (int p = first; p <= last; p++) {
                memory.bytes[p] = value;
            }
            return forced;
        }

        int swapPlaces(int first, int second) {
            int firstValue = memory.valueOf(first);
            int secondValue = memory.valueOf(second);
            touchRow(first, first);
            touched[second] = true;
            int forced = payDependents();
            dropTouched();
            memory.bytes[first] = secondValue;
            memory.bytes[second] = firstValue;
            return forced;
        }

        int fetchPlace(int place) {
            memory.accounts[FETCHES]++;
            memory.accounts[FETCHED_HOPS] += memory.hopsOf(place);
            if (memory.settings[RULE_SETTLE] == 1) {
                pay(place, PAID_FORCED);
            }
            return memory.valueOf(place);
        }

        int passTicks(int ticks) {
            int due = Math.min(ticks * memory.settings[BAND], memory.countOwed());
            for (int k = 0; k < due; k++) {
                pay(placeFor(memory.settings[POLICY]), PAID_IDLE);
            }
            return due;
        }

        int payRow(int first, int last) {
            int paid = memory.countOwedIn(first, last);
            for (int p = first; p <= last; p++) {
                pay(p, PAID_FORCED);
            }
            return paid;
        }

        int lockRow(int first, int last) {
            int paid = payRow(first, last);
            for (int p = first; p <= last; p++) {
                memory.locks[p] = true;
            }
            return paid;
        }

        void keepLimit() {
            int surplus = memory.countOwed() - memory.settings[LIMIT];
            for (int k = 0; k < surplus; k++) {
                pay(placeFor(memory.settings[POLICY]), PAID_FORCED);
            }
        }

        /** Pays the next places until this one is paid; answers how many that were. */
        int payUntilPaid(int place) {
            int paid = 0;
            while (paid < MAX_PLACES && memory.owes(place)) {
                pay(placeFor(memory.settings[POLICY]), PAID_IDLE);
                paid++;
            }
            return paid;
        }

        /** How many ticks so many payments take. */
        int ticksFor(int payments) {
            int band = memory.settings[BAND];
            return band < 1 ? 0 : (payments + band - 1) / band;
        }

        private void touchRow(int first, int last) {
            for (int p = 0; p < MAX_PLACES; p++) {
                touched[p] = p >= first && p <= last;
            }
        }

        private int payDependents() {
            int paid = 0;
            for (int p = 0; p < memory.places; p++) {
                if (!touched[p] && memory.owes(p) && touched[memory.sources[p]]) {
                    pay(p, PAID_FORCED);
                    paid++;
                }
            }
            return paid;
        }

        private void dropTouched() {
            for (int p = 0; p < memory.places; p++) {
                if (touched[p] && memory.owes(p)) {
                    memory.accounts[DROPPED_PLACES]++;
                    memory.note(DROPPED, p, memory.promises[p]);
                    memory.endDebt(p);
                }
            }
        }

        /** Pays a place if it owes. */
        private void pay(int place, int kind) {
            if (memory.owes(place)) {
                memory.bytes[place] = memory.bytes[memory.rootOf(place)];
                memory.endDebt(place);
                memory.note(kind, place, memory.bytes[place]);
                memory.countPayment(kind);
            }
        }

        /** The place that a policy would pay next; NONE if no place owes. */
        int placeFor(int policy) {
            measureDepths();
            int best = NONE;
            int bestRank = 0;
            for (int p = 0; p < memory.places; p++) {
                if (memory.owes(p)) {
                    int rank = rankOf(p, policy);
                    if (best == NONE || rank < bestRank) {
                        best = p;
                        bestRank = rank;
                    }
                }
            }
            return best;
        }

        /** The smaller the rank of a place, the sooner the policy pays it. */
        private int rankOf(int place, int policy) {
            switch (policy) {
                case POLICY_OLDEST:
                    return memory.promises[place];
                case POLICY_MOST_HOPS:
                    return -depths[place];
                case POLICY_FEWEST_HOPS:
                    return depths[place];
                default:
                    return 0;
            }
        }

        int sumOfHops() {
            measureDepths();
            int total = 0;
            for (int p = 0; p < memory.places; p++) {
                total += depths[p];
            }
            return total;
        }

        /** Finds the hops of all places; each chain is walked only as far as it is not known yet. */
        private void measureDepths() {
            for (int p = 0; p < memory.places; p++) {
                depths[p] = memory.sources[p] == NONE ? 0 : NONE;
            }
            for (int p = 0; p < memory.places; p++) {
                int steps = 0;
                int at = p;
                while (steps < MAX_PLACES && depths[at] == NONE) {
                    at = memory.sources[at];
                    steps++;
                }
                int depth = depths[at] + steps;
                at = p;
                for (int k = 0; k < steps; k++) {
                    depths[at] = depth - k;
                    at = memory.sources[at];
                }
            }
        }
    }

    /** The changes that can be undone: the memories as they were ahead of them, in a ring. */
    private static final class History {
        private final Memory[] kept = new Memory[MAX_CHANGES];
        private int at;
        int count;

        History() {
            for (int k = 0; k < MAX_CHANGES; k++) {
                kept[k] = new Memory();
            }
        }

        void forget() {
            count = 0;
        }

        void remember(Memory memory) {
            kept[at].takeFrom(memory);
            at = at + 1 < MAX_CHANGES ? at + 1 : 0;
            count = Math.min(count + 1, MAX_CHANGES);
        }

        void goBack(Memory memory) {
            at = at > 0 ? at - 1 : MAX_CHANGES - 1;
            memory.takeFrom(kept[at]);
            count--;
        }
    }

    /** The text that was written last. */
    private static final class Text {
        // At most 95 debts with at most nine signs each are written.
        final int[] signs = new int[MAX_PLACES * 9];
        int length;

        void clear() {
            length = 0;
        }

        void addSign(int sign) {
            if (length < signs.length) {
                signs[length] = sign;
                length++;
            }
        }

        /** Adds a number from 0 to 999. */
        void addNumber(int number) {
            if (number >= 100) {
                addSign('0' + number / 100);
            }
            if (number >= 10) {
                addSign('0' + number / 10 % 10);
            }
            addSign('0' + number % 10);
        }
    }

    /** The input buffer, and what reads a memory from it. */
    private static final class Reader {
        private static final int END = 0;
        private static final int WORD = 1;
        private static final int NUMBER = 2;
        private static final int SEMICOLON = 3;
        private static final int NO_TOKEN = 4;

        private static final int WORD_LETTERS = 8;
        private static final int NUMBER_DIGITS = 3;

        private static final int NOT_ALLOWED = 1;
        private static final int OUT_OF_BOUNDS = 2;
        private static final int IMPOSSIBLE = 3;
        private static final int TOO_MANY = 4;

        private static final int MAX_PUTS = 20;
        private static final int MAX_LOCKS = 6;
        private static final int MAX_COPIES = 20;
        private static final int MAX_FILLS = 6;

        final Engine engine = new Engine();
        private final int[] buffer = new int[BUFFER_BYTES];
        int filled;
        int error;
        int errorAt = NONE;
        private int length;
        /** The present token: its kind, its first byte, the byte behind it, and what number it is. */
        private int kind;
        private int start;
        private int end;
        private int number;
        private int puts;
        private int locks;
        private int copies;
        private int fills;

        boolean hasRoom(int bytes) {
            return filled + bytes <= BUFFER_BYTES;
        }

        void takeWord(int word) {
            for (int shift = 24; shift >= 0; shift -= 8) {
                if (hasRoom(1)) {
                    buffer[filled] = (word >>> shift) & MAX_BYTE;
                    filled++;
                }
            }
        }

        /** Reads the engine's memory from the first bytes, of which the buffer must have as many. */
        boolean parse(int bytes) {
            startText(bytes);
            readHeader();
            for (int k = 0; k < BUFFER_BYTES && error == 0 && kind != END; k++) {
                if (kind != SEMICOLON) {
                    fail(NOT_ALLOWED);
                }
                advance();
                if (isWord("put")) {
                    readPut();
                } else if (isWord("lock")) {
                    readLock();
                } else if (isWord("copy")) {
                    readCopy();
                } else if (isWord("fill")) {
                    readFill();
                } else if (isWord("short")) {
                    readRule(RULE_SHORT);
                } else if (isWord("settle")) {
                    readRule(RULE_SETTLE);
                } else {
                    fail(NOT_ALLOWED);
                }
            }
            return error == 0;
        }

        private void startText(int bytes) {
            length = Math.min(bytes, filled);
            filled = 0;
            error = 0;
            errorAt = NONE;
            end = 0;
            puts = 0;
            locks = 0;
            copies = 0;
            fills = 0;
            engine.memory.clear();
        }

        private void readHeader() {
            Memory memory = engine.memory;
            memory.places = readNamed("memory", 1, MAX_PLACES);
            memory.settings[BAND] = readNamed("band", 1, MAX_BAND);
            memory.settings[LIMIT] = readNamed("limit", 0, MAX_PLACES);
            memory.settings[POLICY] = readNamed("policy", 0, POLICIES - 1);
            advance();
        }

        private int readNamed(String name, int least, int greatest) {
            advance();
            if (!isWord(name)) {
                fail(NOT_ALLOWED);
            }
            return readNumber(least, greatest);
        }

        /** Reads a number within bounds; behind an error it is the least one. */
        private int readNumber(int least, int greatest) {
            advance();
            if (kind != NUMBER) {
                fail(NOT_ALLOWED);
            } else if (number < least || number > greatest) {
                fail(OUT_OF_BOUNDS);
            }
            return error == 0 ? number : least;
        }

        private int readPlace(int least) {
            return readNumber(least, engine.memory.places - 1);
        }

        private void readPut() {
            puts++;
            if (copies > 0) {
                fail(NOT_ALLOWED);
            } else if (puts > MAX_PUTS) {
                fail(TOO_MANY);
            }
            int place = readPlace(0);
            putByte(place, readNumber(0, MAX_BYTE));
            advance();
            for (int k = 1; k < BUFFER_BYTES && error == 0 && kind == NUMBER; k++) {
                if (number > MAX_BYTE) {
                    fail(OUT_OF_BOUNDS);
                }
                putByte(place + k, number);
                advance();
            }
        }

        private void putByte(int place, int value) {
            if (!engine.memory.isPlace(place)) {
                fail(OUT_OF_BOUNDS);
            }
            if (error == 0) {
                engine.memory.bytes[place] = value;
            }
        }

        private void readLock() {
            locks++;
            if (locks > MAX_LOCKS) {
                fail(TOO_MANY);
            }
            int first = readPlace(0);
            int last = readPlace(first);
            if (error == 0) {
                engine.lockRow(first, last);
            }
            advance();
        }

        private void readCopy() {
            copies++;
            if (copies > MAX_COPIES) {
                fail(TOO_MANY);
            }
            int from = readPlace(0);
            int to = readPlace(0);
            int count = readNumber(1, engine.memory.places);
            if (engine.memory.refusalOf(from, to, count) != 0) {
                fail(IMPOSSIBLE);
            }
            if (error == 0) {
                engine.makeCopy(from, to, count);
            }
            advance();
        }

        private void readFill() {
            fills++;
            if (fills > MAX_FILLS) {
                fail(TOO_MANY);
            }
            int first = readPlace(0);
            int last = readPlace(first);
            int value = readNumber(0, MAX_BYTE);
            if (engine.memory.hasLockIn(first, last)) {
                fail(IMPOSSIBLE);
            }
            if (error == 0) {
                engine.fillRow(first, last, value);
            }
            advance();
        }

        private void readRule(int rule) {
            if (engine.memory.settings[rule] == 1) {
                fail(IMPOSSIBLE);
            }
            engine.memory.settings[rule] = 1;
            advance();
        }

        /** Keeps the first error alone; nothing is read behind it. */
        private void fail(int code) {
            if (error == 0) {
                error = code;
                errorAt = start;
            }
        }

        private void advance() {
            if (error != 0) {
                return;
            }
            start = end;
            while (start < length && buffer[start] == ' ') {
                start++;
            }
            end = start;
            if (start >= length) {
                kind = END;
            } else if (buffer[start] == ';') {
                kind = SEMICOLON;
                end = start + 1;
            } else if (isLetter(start)) {
                while (end < length && isLetter(end)) {
                    end++;
                }
                kind = end - start > WORD_LETTERS ? NO_TOKEN : WORD;
            } else if (isDigit(start)) {
                number = 0;
                while (end < length && isDigit(end)) {
                    number = number * 10 + buffer[end] - '0';
                    end++;
                }
                kind = end - start > NUMBER_DIGITS ? NO_TOKEN : NUMBER;
            } else {
                kind = NO_TOKEN;
            }
        }

        private boolean isLetter(int at) {
            return at < length && buffer[at] >= 'a' && buffer[at] <= 'z';
        }

        private boolean isDigit(int at) {
            return at < length && buffer[at] >= '0' && buffer[at] <= '9';
        }

        private boolean isWord(String word) {
            if (kind != WORD || end - start != word.length()) {
                return false;
            }
            for (int k = 0; k < word.length(); k++) {
                if (buffer[start + k] != word.charAt(k)) {
                    return false;
                }
            }
            return true;
        }
    }
}
