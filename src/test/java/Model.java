import java.util.ArrayDeque;
import java.util.ArrayList;
import java.util.Deque;
import java.util.HashMap;
import java.util.List;
import java.util.Map;
import java.util.regex.Matcher;
import java.util.regex.Pattern;

/**
 * The document written another way, as slow and plain as can be: codes as rows of depths, copied
 * states, the syntax as a regular expression, and the chosen set by asking for the width again and
 * again. What it shares with the program is only the document.
 */
final class Model {
    private static final String KEY = "(10|11|[0-9])";
    private static final String ORDER =
            "(c[0-2]{4}@[0-3]|d" + KEY + ",[0-3]|t" + KEY + ",[0-5]|l" + KEY + "|f" + KEY + ")";
    private static final Pattern ORDERS = Pattern.compile(ORDER + "(;" + ORDER + ")*");

    private static final Map<List<Integer>, List<Integer>> CHOSEN = new HashMap<>();

    private static final class K {
        int[] depths;
        int first;
        int uses;
        int owner;
        boolean lost;
        int worn;

        K copy() {
            K k = new K();
            k.depths = depths.clone();
            k.first = first;
            k.uses = uses;
            k.owner = owner;
            k.lost = lost;
            k.worn = worn;
            return k;
        }
    }

    private static final class L {
        int ward;
        int guest = -1;
        int uses;
        int failed;

        L copy() {
            L l = new L();
            l.ward = ward;
            l.guest = guest;
            l.uses = uses;
            l.failed = failed;
            return l;
        }
    }

    private static final class S {
        List<K> keys = new ArrayList<>();
        L[] locks = new L[6];
        int[] personUses = new int[4];
        int[] settings = {2, 2, 4, 1};
        int[] totals = new int[9];
        int stopOrder = -1;
        int stopWhy = -1;

        S copy() {
            S s = new S();
            for (K k : keys) {
                s.keys.add(k.copy());
            }
            for (int i = 0; i < 6; i++) {
                s.locks[i] = locks[i] == null ? null : locks[i].copy();
            }
            s.personUses = personUses.clone();
            s.settings = settings.clone();
            s.totals = totals.clone();
            s.stopOrder = stopOrder;
            s.stopWhy = stopWhy;
            return s;
        }
    }

    private S now = new S();
    private S kept;
    private final Deque<S> saved = new ArrayDeque<>();
    private String buffer = "";
    private boolean inOrders;

    // ---- codes

    static int[] depths(int code) {
        return new int[] {code / 27, code / 9 % 3, code / 3 % 3, code % 3};
    }

    static int number(int[] d) {
        return 27 * d[0] + 9 * d[1] + 3 * d[2] + d[3];
    }

    static int sum(int[] d) {
        return d[0] + d[1] + d[2] + d[3];
    }

    static boolean atMost(int[] a, int[] b) {
        return a[0] <= b[0] && a[1] <= b[1] && a[2] <= b[2] && a[3] <= b[3];
    }

    static boolean under(int a, int b) {
        return a != b && atMost(depths(a), depths(b));
    }

    static boolean apart(int a, int b) {
        return a != b && !under(a, b) && !under(b, a);
    }

    private boolean sound(int code) {
        int[] d = depths(code);
        for (int i = 1; i < 4; i++) {
            if (Math.abs(d[i] - d[i - 1]) > now.settings[0]) {
                return false;
            }
        }
        return true;
    }

    private int whyByKeys(int code, K except) {
        int why = 9;
        for (K k : now.keys) {
            int other = number(k.depths);
            if (k == except || k.lost && now.settings[3] == 0) {
                continue;
            }
            if (other == code) {
                why = Math.min(why, 3);
            } else if (under(code, other)) {
                why = Math.min(why, 4);
            } else if (under(other, code)) {
                why = Math.min(why, 5);
            }
        }
        return why == 9 ? 0 : why;
    }

    private int whyNotCut(int code) {
        return !sound(code) ? 1 : now.keys.size() == 12 ? 2 : whyByKeys(code, null);
    }

    private boolean free(int code) {
        return sound(code) && whyByKeys(code, null) == 0;
    }

    List<Integer> freeCodes() {
        List<Integer> free = new ArrayList<>();
        for (int code = 0; code < 81; code++) {
            if (free(code)) {
                free.add(code);
            }
        }
        return free;
    }

    private boolean opens(K k, int place) {
        L l = now.locks[place];
        return l != null && (atMost(depths(l.ward), k.depths) || l.guest >= 0 && atMost(depths(l.guest), k.depths));
    }

    // ---- helpers of the calls

    private static void index(boolean good) {
        if (!good) {
            throw new IndexOutOfBoundsException();
        }
    }

    private static void argument(boolean good) {
        if (!good) {
            throw new IllegalArgumentException();
        }
    }

    private static void state(boolean good) {
        if (!good) {
            throw new IllegalStateException();
        }
    }

    private static boolean in(int value, int least, int greatest) {
        return least <= value && value <= greatest;
    }

    private K k(int key) {
        index(in(key, 0, now.keys.size() - 1));
        return now.keys.get(key);
    }

    private void save() {
        if (inOrders) {
            return;
        }
        saved.addLast(now.copy());
        if (saved.size() > 6) {
            saved.removeFirst();
        }
    }

    private int locksOf(K k) {
        int mask = 0;
        for (int place = 0; place < 6; place++) {
            mask += opens(k, place) ? 1 << place : 0;
        }
        return mask;
    }

    // ---- keys

    int cut(int code, int owner) {
        argument(in(code, 0, 80) && in(owner, 0, 3));
        state(whyNotCut(code) == 0);
        save();
        K k = new K();
        k.depths = depths(code);
        k.first = code;
        k.owner = owner;
        now.keys.add(k);
        now.totals[4] += now.settings[1] * sum(k.depths);
        return now.keys.size() - 1;
    }

    int deepen(int key, int notch) {
        index(in(notch, 0, 3));
        k(key);
        state(why(key, notch) == 0);
        save();
        now.keys.get(key).depths[notch]++;
        now.totals[4] += now.settings[1];
        return number(now.keys.get(key).depths);
    }

    int retire(int key) {
        k(key);
        save();
        now.keys.remove(key);
        now.totals[8]++;
        return now.keys.size();
    }

    int give(int key, int owner) {
        k(key);
        argument(in(owner, 0, 3));
        save();
        int before = k(key).owner;
        k(key).owner = owner;
        return before;
    }

    int lose(int key) {
        state(!k(key).lost);
        save();
        k(key).lost = true;
        return Integer.bitCount(locksOf(k(key)));
    }

    int find(int key) {
        state(k(key).lost);
        save();
        k(key).lost = false;
        return Integer.bitCount(locksOf(k(key)));
    }

    // ---- locks

    int ward(int lock, int code) {
        index(in(lock, 0, 5));
        argument(in(code, 0, 80));
        save();
        int before = -1;
        if (now.locks[lock] == null) {
            now.locks[lock] = new L();
        } else {
            before = now.locks[lock].ward;
        }
        now.locks[lock].ward = code;
        return before;
    }

    int guest(int lock, int code) {
        index(in(lock, 0, 5));
        argument(in(code, -1, 80));
        state(now.locks[lock] != null);
        save();
        int before = now.locks[lock].guest;
        now.locks[lock].guest = code;
        return before;
    }

    int take(int lock) {
        index(in(lock, 0, 5));
        state(now.locks[lock] != null);
        save();
        int openers = Integer.bitCount(lock(lock, 2));
        now.locks[lock] = null;
        return openers;
    }

    private boolean wear(K k) {
        int every = now.settings[2];
        int least = Math.min(Math.min(k.depths[0], k.depths[1]), Math.min(k.depths[2], k.depths[3]));
        if (every == 0 || k.uses % every != 0 || least == 2) {
            return false;
        }
        for (int notch = 0; notch < 4; notch++) {
            if (k.depths[notch] == least) {
                k.depths[notch]++;
                return true;
            }
        }
        return false;
    }

    int turn(int key, int lock) {
        index(in(lock, 0, 5));
        state(!k(key).lost && now.locks[lock] != null);
        save();
        K k = k(key);
        if (!opens(k, lock)) {
            now.locks[lock].failed++;
            now.totals[6]++;
            return 0;
        }
        k.uses++;
        now.personUses[k.owner]++;
        now.locks[lock].uses++;
        now.totals[5]++;
        if (wear(k)) {
            k.worn++;
            now.totals[7]++;
        }
        return 1;
    }

    int set(int setting, int value) {
        index(in(setting, 0, 3));
        argument(setting == 0 ? in(value, 1, 2) : setting == 1 ? in(value, 1, 9)
                : setting == 2 ? in(value, 0, 9) : in(value, 0, 1));
        save();
        int before = now.settings[setting];
        now.settings[setting] = value;
        return before;
    }

    // ---- texts, the snapshot

    int append(int code) {
        argument(in(code, 33, 126));
        state(buffer.length() < 60);
        buffer += (char) code;
        return buffer.length();
    }

    int clearBuffer() {
        int before = buffer.length();
        buffer = "";
        return before;
    }

    int firstError() {
        for (int end = 1; end <= buffer.length(); end++) {
            Matcher matcher = ORDERS.matcher(buffer.substring(0, end));
            if (!matcher.matches() && !matcher.hitEnd()) {
                return end - 1;
            }
        }
        return buffer.length();
    }

    int obey() {
        argument(ORDERS.matcher(buffer).matches());
        save();
        now.stopOrder = -1;
        now.stopWhy = -1;
        String[] orders = buffer.split(";");
        buffer = "";
        inOrders = true;
        int done = 0;
        while (done < orders.length) {
            int why = whyNot(orders[done]);
            if (why != 0) {
                now.stopOrder = done;
                now.stopWhy = why;
                break;
            }
            act(orders[done]);
            done++;
        }
        inOrders = false;
        return done;
    }

    private static int keyOf(String order) {
        String rest = order.substring(1);
        int comma = rest.indexOf(',');
        return Integer.parseInt(comma < 0 ? rest : rest.substring(0, comma));
    }

    private static int lastOf(String order) {
        return order.charAt(order.length() - 1) - '0';
    }

    private int whyNot(String order) {
        char letter = order.charAt(0);
        if (letter == 'c') {
            return whyNotCut(Integer.parseInt(order.substring(1, 5), 3));
        }
        int key = keyOf(order);
        if (key >= now.keys.size()) {
            return 7;
        }
        if (letter == 'd') {
            return why(key, lastOf(order));
        }
        if (letter == 't' && now.locks[lastOf(order)] == null) {
            return 8;
        }
        return now.keys.get(key).lost == (letter != 'f') ? 9 : 0;
    }

    private void act(String order) {
        switch (order.charAt(0)) {
            case 'c' -> cut(Integer.parseInt(order.substring(1, 5), 3), lastOf(order));
            case 'd' -> deepen(keyOf(order), lastOf(order));
            case 't' -> turn(keyOf(order), lastOf(order));
            case 'l' -> lose(keyOf(order));
            default -> find(keyOf(order));
        }
    }

    int keep() {
        kept = now.copy();
        return now.keys.size();
    }

    int goBack() {
        state(kept != null);
        save();
        now = kept.copy();
        return now.keys.size();
    }

    int undo() {
        state(!saved.isEmpty());
        now = saved.removeLast();
        return saved.size();
    }

    // ---- looks

    int key(int key, int what) {
        K k = k(key);
        argument(in(what, 0, 9));
        int over = 0;
        int under = 0;
        for (int i = 0; i < now.keys.size(); i++) {
            over += under(number(k.depths), number(now.keys.get(i).depths)) ? 1 << i : 0;
            under += under(number(now.keys.get(i).depths), number(k.depths)) ? 1 << i : 0;
        }
        int[] all = {
            number(k.depths), sum(k.depths), k.first, k.uses, k.owner, k.lost ? 1 : 0, locksOf(k), over, under, k.worn
        };
        return all[what];
    }

    int lock(int lock, int what) {
        index(in(lock, 0, 5));
        argument(in(what, 0, 5));
        L l = now.locks[lock];
        if (l == null) {
            return -1;
        }
        int openers = 0;
        int who = 0;
        for (int i = 0; i < now.keys.size(); i++) {
            K k = now.keys.get(i);
            if (opens(k, lock)) {
                openers |= 1 << i;
                who |= k.lost ? 16 : 1 << k.owner;
            }
        }
        int[] all = {l.ward, l.guest, openers, l.uses, l.failed, who};
        return all[what];
    }

    int person(int person, int what) {
        index(in(person, 0, 3));
        argument(in(what, 0, 2));
        int keys = 0;
        int locks = 0;
        for (int i = 0; i < now.keys.size(); i++) {
            K k = now.keys.get(i);
            if (k.owner == person) {
                keys |= 1 << i;
                locks |= k.lost ? 0 : locksOf(k);
            }
        }
        return what == 0 ? keys : what == 1 ? locks : now.personUses[person];
    }

    int code(int code, int what) {
        argument(in(code, 0, 80) && in(what, 0, 5));
        int over = 0;
        int under = 0;
        for (int other = 0; other < 81; other++) {
            over += sound(other) && under(code, other) ? 1 : 0;
            under += sound(other) && under(other, code) ? 1 : 0;
        }
        int[] all = {
            sum(depths(code)), sound(code) ? 1 : 0, whyNotCut(code), over, under, free(code) ? 1 : 0
        };
        return all[what];
    }

    int level(int level, int what) {
        index(in(level, 0, 8));
        argument(in(what, 0, 3));
        int[] all = {0, 0, 0, -1};
        for (int code = 80; code >= 0; code--) {
            if (sum(depths(code)) == level) {
                all[0] += sound(code) ? 1 : 0;
                all[1] += free(code) ? 1 : 0;
                all[3] = free(code) ? code : all[3];
            }
        }
        for (K k : now.keys) {
            all[2] += sum(k.depths) == level ? 1 : 0;
        }
        return all[what];
    }

    int count(int what) {
        argument(in(what, 0, 11));
        int[] all = new int[12];
        System.arraycopy(now.totals, 0, all, 0, 9);
        all[0] = now.keys.size();
        for (K k : now.keys) {
            all[1] += k.lost ? 1 : 0;
            for (K other : now.keys) {
                all[3] += k != other && !apart(number(k.depths), number(other.depths)) ? 1 : 0;
            }
        }
        all[3] /= 2;
        for (L l : now.locks) {
            all[2] += l != null ? 1 : 0;
        }
        for (int code = 0; code < 81; code++) {
            all[9] += sound(code) ? 1 : 0;
        }
        all[10] = freeCodes().size();
        all[11] = saved.size();
        return all[what];
    }

    int setting(int setting) {
        index(in(setting, 0, 3));
        return now.settings[setting];
    }

    int why(int key, int notch) {
        K k = k(key);
        index(in(notch, 0, 3));
        if (k.depths[notch] == 2) {
            return 6;
        }
        int[] deeper = k.depths.clone();
        deeper[notch]++;
        return sound(number(deeper)) ? whyByKeys(number(deeper), k) : 1;
    }

    int stopped(int what) {
        argument(in(what, 0, 1));
        return what == 0 ? now.stopOrder : now.stopWhy;
    }

    // ---- what would be

    int most(int what) {
        argument(in(what, 0, 1));
        return what == 0 ? width(freeCodes()) : chosen(freeCodes()).size();
    }

    int pick(int rank) {
        index(rank >= 0);
        List<Integer> set = chosen(freeCodes());
        return rank < set.size() ? set.get(rank) : -1;
    }

    /** The most codes of these that are apart: as many as they are, less a largest matching. */
    static int width(List<Integer> codes) {
        int n = codes.size();
        int[] below = new int[n];
        java.util.Arrays.fill(below, -1);
        int matched = 0;
        for (int i = 0; i < n; i++) {
            matched += match(codes, i, below, new boolean[n]) ? 1 : 0;
        }
        return n - matched;
    }

    private static boolean match(List<Integer> codes, int low, int[] below, boolean[] seen) {
        for (int high = 0; high < codes.size(); high++) {
            if (!seen[high] && under(codes.get(low), codes.get(high))) {
                seen[high] = true;
                if (below[high] < 0 || match(codes, below[high], below, seen)) {
                    below[high] = low;
                    return true;
                }
            }
        }
        return false;
    }

    static List<Integer> chosen(List<Integer> free) {
        List<Integer> known = CHOSEN.get(free);
        if (known == null) {
            known = choose(free);
            CHOSEN.put(free, known);
        }
        return known;
    }

    private static List<Integer> choose(List<Integer> free) {
        int most = width(free);
        List<Integer> set = new ArrayList<>();
        List<Integer> open = free;
        while (set.size() < most) {
            for (int code : open) {
                List<Integer> left = new ArrayList<>();
                for (int other : open) {
                    if (other > code && apart(code, other)) {
                        left.add(other);
                    }
                }
                if (width(left) == most - set.size() - 1) {
                    set.add(code);
                    open = left;
                    break;
                }
            }
        }
        return set;
    }

    int opener(int locks) {
        argument(in(locks, 1, 63));
        for (int place = 0; place < 6; place++) {
            argument((locks & 1 << place) == 0 || now.locks[place] != null);
        }
        for (int level = 0; level <= 8; level++) {
            for (int code = 0; code < 81; code++) {
                K k = new K();
                k.depths = depths(code);
                if (sum(k.depths) == level && sound(code) && (locksOf(k) & locks) == locks) {
                    return code;
                }
            }
        }
        return -1;
    }

    int worn(int key, int uses) {
        K k = k(key).copy();
        argument(in(uses, 0, 99));
        for (int i = 0; i < uses; i++) {
            k.uses++;
            wear(k);
        }
        return number(k.depths);
    }

    int crossedIn(int key) {
        k(key);
        for (int uses = 0; uses <= 99; uses++) {
            int code = worn(key, uses);
            for (K other : now.keys) {
                if (other != now.keys.get(key) && !apart(code, number(other.depths))) {
                    return uses;
                }
            }
        }
        return -1;
    }

    double freeShare() {
        return (double) count(10) / count(9);
    }

    float meanLevel() {
        float sum = 0;
        for (K k : now.keys) {
            sum += sum(k.depths);
        }
        return now.keys.isEmpty() ? 0.0f : sum / now.keys.size();
    }

    long digest() {
        List<Long> list = new ArrayList<>();
        for (int what = 0; what <= 11; what++) {
            list.add((long) count(what));
        }
        for (int setting : now.settings) {
            list.add((long) setting);
        }
        for (int key = 0; key < now.keys.size(); key++) {
            for (int what = 0; what <= 9; what++) {
                list.add((long) key(key, what));
            }
            for (int notch = 0; notch < 4; notch++) {
                list.add((long) why(key, notch));
            }
            list.add((long) crossedIn(key));
        }
        for (int place = 0; place < 6; place++) {
            for (int what = 0; what <= 5; what++) {
                list.add((long) lock(place, what));
            }
        }
        for (int person = 0; person < 4; person++) {
            for (int what = 0; what <= 2; what++) {
                list.add((long) person(person, what));
            }
        }
        for (int code = 0; code < 81; code++) {
            for (int what = 2; what <= 5; what++) {
                list.add((long) code(code, what));
            }
        }
        for (int level = 0; level <= 8; level++) {
            for (int what = 0; what <= 3; what++) {
                list.add((long) level(level, what));
            }
        }
        list.add((long) now.stopOrder);
        list.add((long) now.stopWhy);
        list.add((long) most(0));
        list.add((long) most(1));
        for (int rank = 0; rank <= 2; rank++) {
            list.add((long) pick(rank));
        }
        list.add(Double.doubleToLongBits(freeShare()));
        list.add((long) Float.floatToIntBits(meanLevel()));
        list.add(kept != null ? 1L : 0L);
        list.add((long) buffer.length());
        for (char sign : buffer.toCharArray()) {
            list.add((long) sign);
        }
        long hash = 3613;
        for (long value : list) {
            hash = 31 * hash + value;
        }
        return hash;
    }
}
