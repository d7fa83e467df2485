import java.util.Arrays;

/**
 * Notched keys of which none opens by being deeper than it should.
 *
 * <p>The rules of codes, keys, locks, orders and undo stand in ../shared/DOC.md; a "promise" in a
 * comment here is one of that document.
 *
 * <p>All rows are made with the object and used again, so no call makes an object, unless it throws.
 */
public final class NotchedKeys {
    public static final int NONE = -1;

    private static final int NOTCHES = 4;
    private static final int DEPTHS = 3;
    private static final int DEEPEST = 2;
    private static final int CODES = 81;
    private static final int LEVELS = 9;
    private static final int MAX_KEYS = 12;
    private static final int PERSONS = 4;
    private static final int PLACES = 6;
    private static final int SETTINGS = 4;
    private static final int MAX_SAVED = 6;
    private static final int MAX_TEXT = 60;
    private static final int MAX_USES = 99;

    private static final int FIRST_SIGN = 33;
    private static final int LAST_SIGN = 126;

    /** What a notch that is 1 deep adds to a code. */
    private static final int[] NOTCH_WEIGHTS = {27, 9, 3, 1};

    private static final int STEP = 0;
    private static final int PRICE = 1;
    private static final int WEAR = 2;
    private static final int LOST_COUNT = 3;
    private static final int[] LEAST_VALUES = {1, 1, 0, 0};
    private static final int[] GREATEST_VALUES = {2, 9, 9, 1};

    private static final int NO_REASON = 0;
    private static final int UNSOUND = 1;
    private static final int FULL = 2;
    private static final int ALIKE = 3;
    private static final int UNDER = 4;
    private static final int OVER = 5;
    private static final int DEEP_ALREADY = 6;
    private static final int NO_KEY = 7;
    private static final int NO_LOCK = 8;
    private static final int WRONGLY_LOST = 9;

    /** Stands in place of a key's number where no key is left out. */
    private static final int NO_EXCEPTION = -1;

    /** How many bits of a double and of a float stand behind the exponent. */
    private static final int DOUBLE_BITS = 52;
    private static final int FLOAT_BITS = 23;

    private final Codes codes;
    private final ApartCodes apart;
    private final OrderText orders = new OrderText();
    private final State now = new State();
    private final State snapshot = new State();
    private boolean hasSnapshot;

    /** A ring: the place behind the latest state is that of the oldest one. */
    private final State[] saved = new State[MAX_SAVED];
    private int latest = MAX_SAVED - 1;
    private int savedCount;

    public NotchedKeys() {
        codes = new Codes();
        apart = new ApartCodes(codes);
        for (int i = 0; i < MAX_SAVED; i++) {
            saved[i] = new State();
        }
    }

    // ---- keys

    public int cut(int code, int owner) throws IllegalArgumentException, IllegalStateException {
        if (!isCode(code) || !isPerson(owner)) {
            throw new IllegalArgumentException("code or owner is out of range");
        }
        if (reasonAgainstCut(code) != NO_REASON) {
            throw new IllegalStateException("no key can be cut with this code");
        }
        save();
        addKey(code, owner);
        return now.keyCount - 1;
    }

    public int deepen(int key, int notch) throws IndexOutOfBoundsException, IllegalStateException {
        if (!isKey(key) || !isNotch(notch)) {
            throw new IndexOutOfBoundsException("no such key or notch");
        }
        if (reasonAgainstDeeper(key, notch) != NO_REASON) {
            throw new IllegalStateException("this notch can not be cut deeper");
        }
        save();
        cutDeeper(key, notch);
        return now.keys[key].code;
    }

    public int retire(int key) throws IndexOutOfBoundsException {
        if (!isKey(key)) {
            throw new IndexOutOfBoundsException("no such key");
        }
        save();
        for (int k = key; k + 1 < now.keyCount && k + 1 < MAX_KEYS; k++) {
            now.keys[k].copyFrom(now.keys[k + 1]);
        }
        now.keyCount--;
        now.thrownAway++;
        return now.keyCount;
    }

    public int give(int key, int owner) throws IndexOutOfBoundsException, IllegalArgumentException {
        if (!isKey(key)) {
            throw new IndexOutOfBoundsException("no such key");
        }
        if (!isPerson(owner)) {
            throw new IllegalArgumentException("owner is out of range");
        }
        save();
        Key given = now.keys[key];
        int before = given.owner;
        given.owner = owner;
        return before;
    }

    public int lose(int key) throws IndexOutOfBoundsException, IllegalStateException {
        if (!isKey(key)) {
            throw new IndexOutOfBoundsException("no such key");
        }
        if (now.keys[key].lost) {
            throw new IllegalStateException("the key is lost already");
        }
        save();
        now.keys[key].lost = true;
        return Integer.bitCount(locksOpenedBy(key));
    }

    public int find(int key) throws IndexOutOfBoundsException, IllegalStateException {
        if (!isKey(key)) {
            throw new IndexOutOfBoundsException("no such key");
        }
        if (!now.keys[key].lost) {
            throw new IllegalStateException("the key is not lost");
        }
        save();
        now.keys[key].lost = false;
        return Integer.bitCount(locksOpenedBy(key));
    }

    // ---- locks

    public int ward(int lock, int code) throws IndexOutOfBoundsException, IllegalArgumentException {
        if (!isPlace(lock)) {
            throw new IndexOutOfBoundsException("no such place");
        }
        if (!isCode(code)) {
            throw new IllegalArgumentException("code is out of range");
        }
        save();
        int before = now.locks[lock].ward;
        now.locks[lock].ward = code;
        return before;
    }

    public int guest(int lock, int code)
            throws IndexOutOfBoundsException, IllegalArgumentException, IllegalStateException {
        if (!isPlace(lock)) {
            throw new IndexOutOfBoundsException("no such place");
        }
        if (code != NONE && !isCode(code)) {
            throw new IllegalArgumentException("code is out of range");
        }
        if (!isLock(lock)) {
            throw new IllegalStateException("there is no lock");
        }
        save();
        int before = now.locks[lock].guest;
        now.locks[lock].guest = code;
        return before;
    }

    public int take(int lock) throws IndexOutOfBoundsException, IllegalStateException {
        if (!isPlace(lock)) {
            throw new IndexOutOfBoundsException("no such place");
        }
        if (!isLock(lock)) {
            throw new IllegalStateException("there is no lock");
        }
        save();
        int openers = Integer.bitCount(keysOpening(lock));
        now.locks[lock].clear();
        return openers;
    }

    public int turn(int key, int lock) throws IndexOutOfBoundsException, IllegalStateException {
        if (!isKey(key) || !isPlace(lock)) {
            throw new IndexOutOfBoundsException("no such key or place");
        }
        if (now.keys[key].lost || !isLock(lock)) {
            throw new IllegalStateException("the key is lost, or there is no lock");
        }
        save();
        return tryKey(key, lock) ? 1 : 0;
    }

    public int set(int setting, int value) throws IndexOutOfBoundsException, IllegalArgumentException {
        if (!isSetting(setting)) {
            throw new IndexOutOfBoundsException("no such setting");
        }
        if (value < LEAST_VALUES[setting] || value > GREATEST_VALUES[setting]) {
            throw new IllegalArgumentException("value is out of range");
        }
        save();
        int before = now.settings[setting];
        now.settings[setting] = value;
        return before;
    }

    // ---- texts, the snapshot

    public int append(int code) throws IllegalArgumentException, IllegalStateException {
        if (code < FIRST_SIGN || code > LAST_SIGN) {
            throw new IllegalArgumentException("the character code is not 33 to 126");
        }
        if (orders.length >= MAX_TEXT) {
            throw new IllegalStateException("the buffer is full");
        }
        orders.signs[orders.length] = (char) code;
        orders.length++;
        return orders.length;
    }

    public int clearBuffer() {
        int before = orders.length;
        orders.length = 0;
        return before;
    }

    public int firstError() {
        orders.readAll();
        return orders.place;
    }

    public int obey() throws IllegalArgumentException {
        if (!orders.readAll()) {
            throw new IllegalArgumentException("the buffer is not complete orders as a text");
        }
        save();
        now.stopOrder = NONE;
        now.stopReason = NONE;
        int done = doOrders();
        orders.length = 0;
        return done;
    }

    public int keep() {
        snapshot.copyFrom(now);
        hasSnapshot = true;
        return now.keyCount;
    }

    public int goBack() throws IllegalStateException {
        if (!hasSnapshot) {
            throw new IllegalStateException("there is no snapshot");
        }
        save();
        now.copyFrom(snapshot);
        return now.keyCount;
    }

    public int undo() throws IllegalStateException {
        if (savedCount <= 0) {
            throw new IllegalStateException("there is no saved state");
        }
        now.copyFrom(saved[latest]);
        latest = latest > 0 ? latest - 1 : MAX_SAVED - 1;
        savedCount--;
        return savedCount;
    }

    // ---- looks; nothing is changed

    public int key(int key, int what) throws IndexOutOfBoundsException, IllegalArgumentException {
        if (!isKey(key)) {
            throw new IndexOutOfBoundsException("no such key");
        }
        Key told = now.keys[key];
        switch (what) {
            case 0: return told.code;
            case 1: return codes.levels[told.code];
            case 2: return told.firstCode;
            case 3: return told.uses;
            case 4: return told.owner;
            case 5: return told.lost ? 1 : 0;
            case 6: return locksOpenedBy(key);
            case 7: return keysOver(told.code);
            case 8: return keysUnder(told.code);
            case 9: return told.timesWorn;
            default: throw new IllegalArgumentException("what is not 0 to 9");
        }
    }

    public int lock(int lock, int what) throws IndexOutOfBoundsException, IllegalArgumentException {
        if (!isPlace(lock)) {
            throw new IndexOutOfBoundsException("no such place");
        }
        if (what < 0 || what > 5) {
            throw new IllegalArgumentException("what is not 0 to 5");
        }
        if (!isLock(lock)) {
            return NONE;
        }
        Lock told = now.locks[lock];
        switch (what) {
            case 0: return told.ward;
            case 1: return told.guest;
            case 2: return keysOpening(lock);
            case 3: return told.uses;
            case 4: return told.failedTries;
            default: return whoCouldOpen(lock);
        }
    }

    public int person(int person, int what) throws IndexOutOfBoundsException, IllegalArgumentException {
        if (!isPerson(person)) {
            throw new IndexOutOfBoundsException("no such person");
        }
        switch (what) {
            case 0: return keysOf(person);
            case 1: return locksFor(person);
            case 2: return now.personUses[person];
            default: throw new IllegalArgumentException("what is not 0 to 2");
        }
    }

    public int code(int code, int what) throws IllegalArgumentException {
        if (!isCode(code)) {
            throw new IllegalArgumentException("code is out of range");
        }
        switch (what) {
            case 0: return codes.levels[code];
            case 1: return isSound(code) ? 1 : 0;
            case 2: return reasonAgainstCut(code);
            case 3: return soundCodesOver(code);
            case 4: return soundCodesUnder(code);
            case 5: return isFree(code) ? 1 : 0;
            default: throw new IllegalArgumentException("what is not 0 to 5");
        }
    }

    public int level(int level, int what) throws IndexOutOfBoundsException, IllegalArgumentException {
        if (level < 0 || level >= LEVELS) {
            throw new IndexOutOfBoundsException("no such level");
        }
        switch (what) {
            case 0: return soundCodesOf(level);
            case 1: return freeCodesOf(level);
            case 2: return keysOfLevel(level);
            case 3: return leastFreeCodeOf(level);
            default: throw new IllegalArgumentException("what is not 0 to 3");
        }
    }

    public int count(int what) throws IllegalArgumentException {
        switch (what) {
            case 0: return now.keyCount;
            case 1: return lostKeys();
            case 2: return lockCount();
            case 3: return crossedPairs();
            case 4: return now.pence;
            case 5: return now.uses;
            case 6: return now.failedTries;
            case 7: return now.timesWorn;
            case 8: return now.thrownAway;
            case 9: return soundCodes();
            case 10: return freeCodes();
            case 11: return savedCount;
            default: throw new IllegalArgumentException("what is not 0 to 11");
        }
    }

    public int setting(int setting) throws IndexOutOfBoundsException {
        if (!isSetting(setting)) {
            throw new IndexOutOfBoundsException("no such setting");
        }
        return now.settings[setting];
    }

    public int why(int key, int notch) throws IndexOutOfBoundsException {
        if (!isKey(key) || !isNotch(notch)) {
            throw new IndexOutOfBoundsException("no such key or notch");
        }
        return reasonAgainstDeeper(key, notch);
    }

    public int stopped(int what) throws IllegalArgumentException {
        switch (what) {
            case 0: return now.stopOrder;
            case 1: return now.stopReason;
            default: throw new IllegalArgumentException("what is not 0 or 1");
        }
    }

    // ---- what would be; nothing is changed

    public int most(int what) throws IllegalArgumentException {
        if (what < 0 || what > 1) {
            throw new IllegalArgumentException("what is not 0 or 1");
        }
        findMost();
        return what == 0 ? apart.chainCount : apart.chosenCount;
    }

    public int pick(int rank) throws IndexOutOfBoundsException {
        if (rank < 0) {
            throw new IndexOutOfBoundsException("rank is below 0");
        }
        findMost();
        return rank < apart.chosenCount && rank < CODES ? apart.chosen[rank] : NONE;
    }

    public int opener(int locks) throws IllegalArgumentException {
        if (locks <= 0 || locks >= 1 << PLACES || !hasAllLocks(locks)) {
            throw new IllegalArgumentException("locks is no set of locks");
        }
        int best = NONE;
        int bestLevel = LEVELS;
        for (int code = 0; code < CODES; code++) {
            if (codes.levels[code] < bestLevel && isSound(code) && opensAll(code, locks)) {
                best = code;
                bestLevel = codes.levels[code];
            }
        }
        return best;
    }

    public int worn(int key, int uses) throws IndexOutOfBoundsException, IllegalArgumentException {
        if (!isKey(key)) {
            throw new IndexOutOfBoundsException("no such key");
        }
        if (uses < 0 || uses > MAX_USES) {
            throw new IllegalArgumentException("uses is out of range");
        }
        int code = now.keys[key].code;
        for (int use = 1; use <= uses; use++) {
            code = codeBehindUse(code, now.keys[key].uses + use);
        }
        return code;
    }

    public int crossedIn(int key) throws IndexOutOfBoundsException {
        if (!isKey(key)) {
            throw new IndexOutOfBoundsException("no such key");
        }
        int code = now.keys[key].code;
        if (crossesAnother(key, code)) {
            return 0;
        }
        for (int use = 1; use <= MAX_USES; use++) {
            int behind = codeBehindUse(code, now.keys[key].uses + use);
            if (behind != code && crossesAnother(key, behind)) {
                return use;
            }
            code = behind;
        }
        return NONE;
    }

    public double freeShare() {
        int sound = soundCodes();
        return sound > 0 ? (double) freeCodes() / (double) sound : 0.0;
    }

    public float meanLevel() {
        if (now.keyCount <= 0) {
            return 0.0f;
        }
        int sum = 0;
        for (int k = 0; k < now.keyCount && k < MAX_KEYS; k++) {
            sum += codes.levels[now.keys[k].code];
        }
        return (float) sum / (float) now.keyCount;
    }

    public long digest() {
        long hash = 3613;
        hash = mixCounts(hash);
        hash = mixKeys(hash);
        hash = mixLocksAndPersons(hash);
        hash = mixCodesAndLevels(hash);
        hash = mix(mix(hash, stopped(0)), stopped(1));
        hash = mix(mix(hash, most(0)), most(1));
        hash = mix(mix(mix(hash, pick(0)), pick(1)), pick(2));
        hash = mix(hash, doubleBits(freeShare()));
        hash = mix(hash, floatBits(meanLevel()));
        hash = mix(hash, hasSnapshot ? 1 : 0);
        hash = mix(hash, orders.length);
        for (int i = 0; i < orders.length && i < MAX_TEXT; i++) {
            hash = mix(hash, orders.signs[i]);
        }
        return hash;
    }

    // ---- ranges

    private static boolean isCode(int code) {
        return code >= 0 && code < CODES;
    }

    private static boolean isPerson(int person) {
        return person >= 0 && person < PERSONS;
    }

    private static boolean isNotch(int notch) {
        return notch >= 0 && notch < NOTCHES;
    }

    private static boolean isPlace(int place) {
        return place >= 0 && place < PLACES;
    }

    private static boolean isSetting(int setting) {
        return setting >= 0 && setting < SETTINGS;
    }

    private boolean isKey(int key) {
        return key >= 0 && key < now.keyCount && key < MAX_KEYS;
    }

    private boolean isLock(int place) {
        return isPlace(place) && now.locks[place].ward != NONE;
    }

    // ---- changes; the caller has looked whether they can be made, and has saved the state

    private void save() {
        latest = latest < MAX_SAVED - 1 ? latest + 1 : 0;
        saved[latest].copyFrom(now);
        if (savedCount < MAX_SAVED) {
            savedCount++;
        }
    }

    private void addKey(int code, int owner) {
        now.keys[now.keyCount].startWith(code, owner);
        now.keyCount++;
        now.pence += now.settings[PRICE] * codes.levels[code];
    }

    private void cutDeeper(int key, int notch) {
        now.keys[key].code += NOTCH_WEIGHTS[notch];
        now.pence += now.settings[PRICE];
    }

    private boolean tryKey(int key, int place) {
        Key tried = now.keys[key];
        Lock lock = now.locks[place];
        if (!opens(tried.code, place)) {
            lock.failedTries++;
            now.failedTries++;
            return false;
        }
        tried.uses++;
        lock.uses++;
        now.uses++;
        if (isPerson(tried.owner)) {
            now.personUses[tried.owner]++;
        }
        int behind = codeBehindUse(tried.code, tried.uses);
        if (behind != tried.code) {
            tried.code = behind;
            tried.timesWorn++;
            now.timesWorn++;
        }
        return true;
    }

    /** The code of a key behind the use that is its uses-th one: worn, or as it was. */
    private int codeBehindUse(int code, int uses) {
        int usesUntilWorn = now.settings[WEAR];
        if (usesUntilWorn <= 0 || uses % usesUntilWorn != 0) {
            return code;
        }
        return codes.wornTo[code];
    }

    // ---- orders

    private int doOrders() {
        orders.place = 0;
        int done = 0;
        while (done < MAX_TEXT && orders.readOrder()) {
            int reason = doOrder();
            if (reason != NO_REASON) {
                now.stopOrder = done;
                now.stopReason = reason;
                return done;
            }
            done++;
            orders.skip(';');
        }
        return done;
    }

    /** Does the order that has been read; tells the reason if it can not be done. */
    private int doOrder() {
        if (orders.kind == 'c') {
            return doCut(orders.code, orders.number);
        }
        if (!isKey(orders.key)) {
            return NO_KEY;
        }
        if (orders.kind == 'd') {
            return doDeepen(orders.key, orders.number);
        }
        if (orders.kind == 't') {
            return doTry(orders.key, orders.number);
        }
        return doMark(orders.key, orders.kind == 'l');
    }

    private int doCut(int code, int owner) {
        int reason = reasonAgainstCut(code);
        if (reason == NO_REASON) {
            addKey(code, owner);
        }
        return reason;
    }

    private int doDeepen(int key, int notch) {
        int reason = reasonAgainstDeeper(key, notch);
        if (reason == NO_REASON) {
            cutDeeper(key, notch);
        }
        return reason;
    }

    private int doTry(int key, int place) {
        if (!isLock(place)) {
            return NO_LOCK;
        }
        if (now.keys[key].lost) {
            return WRONGLY_LOST;
        }
        tryKey(key, place);
        return NO_REASON;
    }

    private int doMark(int key, boolean lost) {
        if (now.keys[key].lost == lost) {
            return WRONGLY_LOST;
        }
        now.keys[key].lost = lost;
        return NO_REASON;
    }

    // ---- why a key can not be cut

    private boolean isSound(int code) {
        return codes.steps[code] <= now.settings[STEP];
    }

    private boolean isFree(int code) {
        return isSound(code) && reasonByKeys(code, NO_EXCEPTION) == NO_REASON;
    }

    private int reasonAgainstCut(int code) {
        if (!isSound(code)) {
            return UNSOUND;
        }
        if (now.keyCount >= MAX_KEYS) {
            return FULL;
        }
        return reasonByKeys(code, NO_EXCEPTION);
    }

    private int reasonAgainstDeeper(int key, int notch) {
        int code = now.keys[key].code;
        if (Codes.depthOf(code, notch) >= DEEPEST) {
            return DEEP_ALREADY;
        }
        int deeper = code + NOTCH_WEIGHTS[notch];
        if (!isSound(deeper)) {
            return UNSOUND;
        }
        return reasonByKeys(deeper, key);
    }

    /** Looks at all keys first, as a like code of a late key goes before one that lies over an early key. */
    private int reasonByKeys(int code, int except) {
        boolean lostCount = now.settings[LOST_COUNT] != 0;
        boolean alike = false;
        boolean under = false;
        boolean over = false;
        for (int k = 0; k < now.keyCount && k < MAX_KEYS; k++) {
            Key other = now.keys[k];
            if (k != except && (lostCount || !other.lost)) {
                alike = alike || code == other.code;
                under = under || codes.liesUnder(code, other.code);
                over = over || codes.liesUnder(other.code, code);
            }
        }
        if (alike) {
            return ALIKE;
        }
        if (under) {
            return UNDER;
        }
        return over ? OVER : NO_REASON;
    }

    // ---- keys and locks seen together

    private boolean opens(int code, int place) {
        Lock lock = now.locks[place];
        return lock.ward != NONE && codes.isUnderOrLike(lock.ward, code)
                || lock.guest != NONE && codes.isUnderOrLike(lock.guest, code);
    }

    private boolean opensAll(int code, int places) {
        for (int place = 0; place < PLACES; place++) {
            if (((places >> place) & 1) == 1 && !opens(code, place)) {
                return false;
            }
        }
        return true;
    }

    private boolean hasAllLocks(int places) {
        for (int place = 0; place < PLACES; place++) {
            if (((places >> place) & 1) == 1 && !isLock(place)) {
                return false;
            }
        }
        return true;
    }

    private int locksOpenedBy(int key) {
        int mask = 0;
        for (int place = 0; place < PLACES; place++) {
            if (opens(now.keys[key].code, place)) {
                mask |= 1 << place;
            }
        }
        return mask;
    }

    private int keysOpening(int place) {
        int mask = 0;
        for (int k = 0; k < now.keyCount && k < MAX_KEYS; k++) {
            if (opens(now.keys[k].code, place)) {
                mask |= 1 << k;
            }
        }
        return mask;
    }

    private int whoCouldOpen(int place) {
        int mask = 0;
        for (int k = 0; k < now.keyCount && k < MAX_KEYS; k++) {
            Key held = now.keys[k];
            if (opens(held.code, place)) {
                mask |= 1 << (held.lost ? PERSONS : held.owner);
            }
        }
        return mask;
    }

    private int keysOf(int person) {
        int mask = 0;
        for (int k = 0; k < now.keyCount && k < MAX_KEYS; k++) {
            if (now.keys[k].owner == person) {
                mask |= 1 << k;
            }
        }
        return mask;
    }

    private int locksFor(int person) {
        int mask = 0;
        for (int k = 0; k < now.keyCount && k < MAX_KEYS; k++) {
            if (now.keys[k].owner == person && !now.keys[k].lost) {
                mask |= locksOpenedBy(k);
            }
        }
        return mask;
    }

    private int keysOver(int code) {
        int mask = 0;
        for (int k = 0; k < now.keyCount && k < MAX_KEYS; k++) {
            if (codes.liesUnder(code, now.keys[k].code)) {
                mask |= 1 << k;
            }
        }
        return mask;
    }

    private int keysUnder(int code) {
        int mask = 0;
        for (int k = 0; k < now.keyCount && k < MAX_KEYS; k++) {
            if (codes.liesUnder(now.keys[k].code, code)) {
                mask |= 1 << k;
            }
        }
        return mask;
    }

    private boolean crossesAnother(int key, int code) {
        for (int k = 0; k < now.keyCount && k < MAX_KEYS; k++) {
            if (k != key && codes.areCrossed(code, now.keys[k].code)) {
                return true;
            }
        }
        return false;
    }

    // ---- how many

    private int lostKeys() {
        int lost = 0;
        for (int k = 0; k < now.keyCount && k < MAX_KEYS; k++) {
            if (now.keys[k].lost) {
                lost++;
            }
        }
        return lost;
    }

    private int lockCount() {
        int there = 0;
        for (int place = 0; place < PLACES; place++) {
            if (isLock(place)) {
                there++;
            }
        }
        return there;
    }

    private int crossedPairs() {
        int pairs = 0;
        for (int k = 0; k < now.keyCount && k < MAX_KEYS; k++) {
            for (int other = 0; other < k; other++) {
                if (codes.areCrossed(now.keys[k].code, now.keys[other].code)) {
                    pairs++;
                }
            }
        }
        return pairs;
    }

    private int keysOfLevel(int level) {
        int found = 0;
        for (int k = 0; k < now.keyCount && k < MAX_KEYS; k++) {
            if (codes.levels[now.keys[k].code] == level) {
                found++;
            }
        }
        return found;
    }

    private int soundCodes() {
        int found = 0;
        for (int code = 0; code < CODES; code++) {
            if (isSound(code)) {
                found++;
            }
        }
        return found;
    }

    private int freeCodes() {
        int found = 0;
        for (int code = 0; code < CODES; code++) {
            if (isFree(code)) {
                found++;
            }
        }
        return found;
    }

    private int soundCodesOver(int code) {
        int found = 0;
        for (int other = 0; other < CODES; other++) {
            if (codes.liesUnder(code, other) && isSound(other)) {
                found++;
            }
        }
        return found;
    }

    private int soundCodesUnder(int code) {
        int found = 0;
        for (int other = 0; other < CODES; other++) {
            if (codes.liesUnder(other, code) && isSound(other)) {
                found++;
            }
        }
        return found;
    }

    private int soundCodesOf(int level) {
        int found = 0;
        for (int code = 0; code < CODES; code++) {
            if (codes.levels[code] == level && isSound(code)) {
                found++;
            }
        }
        return found;
    }

    private int freeCodesOf(int level) {
        int found = 0;
        for (int code = 0; code < CODES; code++) {
            if (codes.levels[code] == level && isFree(code)) {
                found++;
            }
        }
        return found;
    }

    private int leastFreeCodeOf(int level) {
        for (int code = 0; code < CODES; code++) {
            if (codes.levels[code] == level && isFree(code)) {
                return code;
            }
        }
        return NONE;
    }

    // ---- the most keys that could come

    /** Works only if other codes are free than at the last time, as nothing else bears on the answer. */
    private void findMost() {
        boolean changed = false;
        for (int code = 0; code < CODES; code++) {
            boolean free = isFree(code);
            changed = changed || free != apart.free[code];
            apart.free[code] = free;
        }
        if (changed) {
            apart.findChains();
            apart.choose();
        }
    }

    // ---- the digest

    private static long mix(long hash, long value) {
        return 31 * hash + value;
    }

    private long mixCounts(long start) {
        long hash = start;
        for (int what = 0; what <= 11; what++) {
            hash = mix(hash, count(what));
        }
        for (int setting = 0; setting < SETTINGS; setting++) {
            hash = mix(hash, now.settings[setting]);
        }
        return hash;
    }

    private long mixKeys(long start) {
        long hash = start;
        for (int k = 0; k < now.keyCount && k < MAX_KEYS; k++) {
            for (int what = 0; what <= 9; what++) {
                hash = mix(hash, key(k, what));
            }
            for (int notch = 0; notch < NOTCHES; notch++) {
                hash = mix(hash, why(k, notch));
            }
            hash = mix(hash, crossedIn(k));
        }
        return hash;
    }

    private long mixLocksAndPersons(long start) {
        long hash = start;
        for (int place = 0; place < PLACES; place++) {
            for (int what = 0; what <= 5; what++) {
                hash = mix(hash, lock(place, what));
            }
        }
        for (int person = 0; person < PERSONS; person++) {
            for (int what = 0; what <= 2; what++) {
                hash = mix(hash, person(person, what));
            }
        }
        return hash;
    }

    private long mixCodesAndLevels(long start) {
        long hash = start;
        for (int code = 0; code < CODES; code++) {
            for (int what = 2; what <= 5; what++) {
                hash = mix(hash, code(code, what));
            }
        }
        for (int level = 0; level < LEVELS; level++) {
            for (int what = 0; what <= 3; what++) {
                hash = mix(hash, level(level, what));
            }
        }
        return hash;
    }

    /**
     * The bits of a share, made by hand as the library's function is not among those of LANGUAGE.md:
     * the share, which is at most 1, is brought to 1 or more and below 2, so that what is above 1 are
     * the bits behind the exponent. The loop ends long before its bound, as a share is at least 1/81.
     */
    private static long doubleBits(double share) {
        if (share <= 0.0) {
            return 0L;
        }
        double scaled = share;
        long exponent = 1023;
        for (int i = 0; i < 1000 && scaled < 1.0; i++) {
            scaled = scaled * 2.0;
            exponent--;
        }
        return (exponent << DOUBLE_BITS) + (long) ((scaled - 1.0) * (double) (1L << DOUBLE_BITS));
    }

    /** As doubleBits, but the mean can be above 2; each float is a double too, and no step rounds. */
    private static int floatBits(float mean) {
        if (mean <= 0.0f) {
            return 0;
        }
        double scaled = (double) mean;
        int exponent = 127;
        for (int i = 0; i < 100 && scaled >= 2.0; i++) {
            scaled = scaled / 2.0;
            exponent++;
        }
        for (int i = 0; i < 100 && scaled < 1.0; i++) {
            scaled = scaled * 2.0;
            exponent--;
        }
        return (exponent << FLOAT_BITS) + (int) ((scaled - 1.0) * (double) (1 << FLOAT_BITS));
    }

    /** What is so of codes whatever keys and settings there are. */
    private static final class Codes {
        /** Two bits for each notch, of which as many are set as it is deep: under means no bit more. */
        final int[] marks = new int[CODES];
        final int[] levels = new int[CODES];
        /** By how much two notches side by side differ at most. */
        final int[] steps = new int[CODES];
        /** The code with its first shallowest notch 1 deeper; the same code if all are deepest. */
        final int[] wornTo = new int[CODES];

        Codes() {
            for (int code = 0; code < CODES; code++) {
                int before = depthOf(code, 0);
                for (int notch = 0; notch < NOTCHES; notch++) {
                    int depth = depthOf(code, notch);
                    marks[code] |= ((1 << depth) - 1) << (2 * notch);
                    levels[code] += depth;
                    steps[code] = Math.max(steps[code], Math.abs(depth - before));
                    before = depth;
                }
                wornTo[code] = wornOnce(code);
            }
        }

        static int depthOf(int code, int notch) {
            return code / NOTCH_WEIGHTS[notch] % DEPTHS;
        }

        private static int wornOnce(int code) {
            int shallowest = 0;
            for (int notch = 1; notch < NOTCHES; notch++) {
                if (depthOf(code, notch) < depthOf(code, shallowest)) {
                    shallowest = notch;
                }
            }
            boolean wears = depthOf(code, shallowest) < DEEPEST;
            return wears ? code + NOTCH_WEIGHTS[shallowest] : code;
        }

        boolean isUnderOrLike(int code, int other) {
            return (marks[code] & ~marks[other]) == 0;
        }

        boolean liesUnder(int code, int other) {
            return code != other && (marks[code] & ~marks[other]) == 0;
        }

        boolean areCrossed(int code, int other) {
            int shared = marks[code] & marks[other];
            return shared == marks[code] || shared == marks[other];
        }
    }

    private static final class Key {
        int code;
        int firstCode;
        int uses;
        int owner;
        int timesWorn;
        boolean lost;

        void startWith(int cutCode, int cutOwner) {
            code = cutCode;
            firstCode = cutCode;
            uses = 0;
            owner = cutOwner;
            timesWorn = 0;
            lost = false;
        }

        void copyFrom(Key other) {
            code = other.code;
            firstCode = other.firstCode;
            uses = other.uses;
            owner = other.owner;
            timesWorn = other.timesWorn;
            lost = other.lost;
        }
    }

    /** A place of a lock; without a ward there is no lock. */
    private static final class Lock {
        int ward = NONE;
        int guest = NONE;
        int uses;
        int failedTries;

        void clear() {
            ward = NONE;
            guest = NONE;
            uses = 0;
            failedTries = 0;
        }

        void copyFrom(Lock other) {
            ward = other.ward;
            guest = other.guest;
            uses = other.uses;
            failedTries = other.failedTries;
        }
    }

    /** All that undo() and goBack() restore. */
    private static final class State {
        final Key[] keys = new Key[MAX_KEYS];
        int keyCount;
        final Lock[] locks = new Lock[PLACES];
        final int[] personUses = new int[PERSONS];
        final int[] settings = {2, 2, 4, 1};
        int pence;
        int uses;
        int failedTries;
        int timesWorn;
        int thrownAway;
        int stopOrder = NONE;
        int stopReason = NONE;

        State() {
            for (int k = 0; k < MAX_KEYS; k++) {
                keys[k] = new Key();
            }
            for (int place = 0; place < PLACES; place++) {
                locks[place] = new Lock();
            }
        }

        void copyFrom(State other) {
            keyCount = other.keyCount;
            for (int k = 0; k < keyCount && k < MAX_KEYS; k++) {
                keys[k].copyFrom(other.keys[k]);
            }
            for (int place = 0; place < PLACES; place++) {
                locks[place].copyFrom(other.locks[place]);
            }
            System.arraycopy(other.personUses, 0, personUses, 0, PERSONS);
            System.arraycopy(other.settings, 0, settings, 0, SETTINGS);
            pence = other.pence;
            uses = other.uses;
            failedTries = other.failedTries;
            timesWorn = other.timesWorn;
            thrownAway = other.thrownAway;
            stopOrder = other.stopOrder;
            stopReason = other.stopReason;
        }
    }

    /** The buffer, and a reader that goes through it from left to right. */
    private static final class OrderText {
        final char[] signs = new char[MAX_TEXT];
        int length;

        /** Behind the last character that was read; the reader never goes past a wrong one. */
        int place;

        /** The order that was read last: its letter, and what belongs to that letter. */
        char kind;
        int code;
        int key;
        int number;

        /**
         * Reads until the end or the first wrong character, where place stays then. What is right so
         * far can always go on to be orders, so no character is wrong but the one that stops the reader.
         */
        boolean readAll() {
            place = 0;
            for (int part = 0; part < MAX_TEXT; part++) {
                if (!readOrder()) {
                    return false;
                }
                if (place >= length) {
                    return true;
                }
                if (!skip(';')) {
                    return false;
                }
            }
            return false;
        }

        boolean readOrder() {
            if (skip('c')) {
                kind = 'c';
                return readCode() && skip('@') && readNumber(PERSONS);
            }
            if (skip('d')) {
                kind = 'd';
                return readKey() && skip(',') && readNumber(NOTCHES);
            }
            if (skip('t')) {
                kind = 't';
                return readKey() && skip(',') && readNumber(PLACES);
            }
            if (skip('l')) {
                kind = 'l';
                return readKey();
            }
            kind = 'f';
            return skip('f') && readKey();
        }

        boolean skip(char sign) {
            if (!isNext(sign, sign)) {
                return false;
            }
            place++;
            return true;
        }

        private boolean isNext(char first, char last) {
            return place < length && place < MAX_TEXT && signs[place] >= first && signs[place] <= last;
        }

        private boolean readCode() {
            int read = 0;
            for (int notch = 0; notch < NOTCHES; notch++) {
                if (!readNumber(DEPTHS)) {
                    return false;
                }
                read = DEPTHS * read + number;
            }
            code = read;
            return true;
        }

        /** Only a 1 can have a second digit, as keys go to 11 and have no leading zeros. */
        private boolean readKey() {
            if (!readNumber(10)) {
                return false;
            }
            key = number;
            if (key == 1 && isNext('0', '1')) {
                key = 10 + (signs[place] - '0');
                place++;
            }
            return true;
        }

        /** Reads one digit that is below the bound. */
        private boolean readNumber(int bound) {
            if (!isNext('0', (char) ('0' + bound - 1))) {
                return false;
            }
            number = signs[place] - '0';
            place++;
            return true;
        }
    }

    /**
     * The most free codes that are apart. The chains come from a largest matching of codes with codes
     * over them; a set of the most codes has just one code in each chain, which is what the choice
     * rests on. At first no code is free, and the empty answers are the right ones.
     */
    private static final class ApartCodes {
        private final Codes codes;
        final boolean[] free = new boolean[CODES];
        int chainCount;
        final int[] chosen = new int[CODES];
        int chosenCount;

        /** The code behind and the code before each one in its chain. */
        private final int[] next = new int[CODES];
        private final int[] previous = new int[CODES];
        private final int[] starts = new int[CODES];

        private final int[] queue = new int[CODES];
        private final int[] reachedFrom = new int[CODES];

        /** Free codes that are apart from all that are chosen, and of these those apart from a trial. */
        private final boolean[] open = new boolean[CODES];
        private final boolean[] left = new boolean[CODES];
        private final int[] lowest = new int[CODES];

        ApartCodes(Codes codes) {
            this.codes = codes;
        }

        void findChains() {
            Arrays.fill(next, NONE);
            Arrays.fill(previous, NONE);
            for (int code = 0; code < CODES; code++) {
                if (free[code]) {
                    findNext(code);
                }
            }
            chainCount = 0;
            for (int code = 0; code < CODES; code++) {
                if (free[code] && previous[code] == NONE) {
                    starts[chainCount] = code;
                    chainCount++;
                }
            }
        }

        /** By breadth and not by recursion, as a row of swaps can be longer than calls may be deep. */
        private void findNext(int start) {
            Arrays.fill(reachedFrom, NONE);
            queue[0] = start;
            int queued = 1;
            for (int i = 0; i < queued && i < CODES; i++) {
                int low = queue[i];
                for (int high = low + 1; high < CODES; high++) {
                    if (free[high] && reachedFrom[high] == NONE && codes.liesUnder(low, high)) {
                        reachedFrom[high] = low;
                        if (previous[high] == NONE) {
                            swapBack(high);
                            return;
                        }
                        if (queued < CODES) {
                            queue[queued] = previous[high];
                            queued++;
                        }
                    }
                }
            }
        }

        private void swapBack(int end) {
            int high = end;
            for (int i = 0; i < CODES && high != NONE; i++) {
                int low = reachedFrom[high];
                if (low == NONE) {
                    return;
                }
                int released = next[low];
                next[low] = high;
                previous[high] = low;
                high = released;
            }
        }

        /** The least code that leaves a full set, again and again: that is the chosen set. */
        void choose() {
            chosenCount = 0;
            for (int code = 0; code < CODES; code++) {
                open[code] = free[code];
            }
            for (int code = 0; code < CODES && chosenCount < chainCount; code++) {
                if (open[code] && leavesFullSet(code)) {
                    add(code);
                }
            }
        }

        private void add(int code) {
            chosen[chosenCount] = code;
            chosenCount++;
            for (int other = 0; other < CODES; other++) {
                open[other] = open[other] && !codes.areCrossed(code, other);
            }
        }

        /** Whether the codes chosen so far and this one are part of a set with a code in each chain. */
        private boolean leavesFullSet(int code) {
            for (int other = 0; other < CODES; other++) {
                left[other] = open[other] && !codes.areCrossed(code, other);
            }
            int chains = 0;
            for (int chain = 0; chain < chainCount && chain < CODES; chain++) {
                int first = leftFrom(starts[chain]);
                if (first != NONE) {
                    lowest[chains] = first;
                    chains++;
                }
            }
            return chains == chainCount - chosenCount - 1 && canBeApart(chains);
        }

        private int leftFrom(int start) {
            int code = start;
            for (int i = 0; i < CODES && code != NONE && !left[code]; i++) {
                code = next[code];
            }
            return code;
        }

        /**
         * Begins with the lowest code that is left of each chain. One that lies under that of another
         * chain lies under all that are left there further up, so it can be in no set: its chain goes
         * on to the next code. Each move takes a code away, so the rounds are at most as many as codes.
         */
        private boolean canBeApart(int chains) {
            boolean moved = true;
            for (int round = 0; moved && round <= CODES; round++) {
                moved = false;
                for (int i = 0; i < chains; i++) {
                    for (int j = 0; j < chains; j++) {
                        if (codes.liesUnder(lowest[i], lowest[j])) {
                            int higher = leftFrom(next[lowest[i]]);
                            if (higher == NONE) {
                                return false;
                            }
                            lowest[i] = higher;
                            moved = true;
                        }
                    }
                }
            }
            return !moved;
        }
    }
}
