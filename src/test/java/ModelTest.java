import java.util.ArrayList;
import java.util.List;
import java.util.Random;

/** Long runs of calls with fixed seeds: each answer of the program beside that of the model. */
public final class ModelTest {
    private static final int RUNS = 240;
    private static final int CALLS = 512;
    private static final int APPEND = 11;
    private static final int OBEY = 14;
    private static final String[] NAMES = {
        "cut", "deepen", "retire", "give", "lose", "find", "ward", "guest", "take", "turn", "set", "append",
        "clearBuffer", "firstError", "obey", "keep", "goBack", "undo", "key", "lock", "person", "code", "level",
        "count", "setting", "why", "stopped", "most", "pick", "opener", "worn", "crossedIn", "freeShare",
        "meanLevel", "digest"
    };

    /** How often each call comes, by the kind of the run. */
    private static final int[][] WEIGHTS = {
        // c  d  r  g  l  f  w  g  t  tu s  a  cl fi ob ke go un looks: k l p c l c s w s, m p o w c f m d
        {30, 12, 4, 5, 8, 8, 9, 6, 2, 30, 6, 9, 1, 2, 1, 2, 2, 6, 9, 9, 6, 9, 6, 9, 2, 9, 2, 3, 4, 9, 6, 6, 2, 2, 5},
        {60, 4, 1, 2, 3, 2, 4, 2, 1, 9, 2, 2, 1, 1, 1, 1, 1, 3, 5, 5, 3, 5, 3, 5, 1, 5, 1, 3, 9, 5, 3, 3, 1, 1, 5},
        {20, 9, 3, 5, 3, 4, 9, 5, 1, 90, 9, 1, 1, 1, 1, 1, 1, 2, 9, 9, 5, 3, 3, 9, 1, 9, 1, 1, 2, 5, 9, 15, 1, 1, 5},
        {9, 3, 2, 2, 2, 2, 9, 2, 1, 5, 3, 300, 1, 9, 9, 1, 1, 3, 3, 3, 3, 3, 3, 3, 1, 3, 15, 1, 1, 3, 1, 2, 1, 1, 5},
        {40, 30, 9, 5, 30, 20, 5, 3, 2, 9, 9, 1, 1, 1, 1, 3, 4, 9, 9, 5, 5, 9, 5, 9, 1, 20, 1, 4, 4, 4, 3, 9, 1, 1, 5}
    };

    private final Random random;
    private final int kind;
    private final NotchedKeys x = new NotchedKeys();
    private final Model model = new Model();
    private String toWrite = "";
    private boolean obeysNext;

    private ModelTest(int run) {
        random = new Random(run);
        kind = run % WEIGHTS.length;
    }

    public static void main(String[] args) {
        Check check = new Check();
        smallSets(check);
        int[] answered = new int[NAMES.length];
        int[] threw = new int[NAMES.length];
        for (int run = 0; run < RUNS; run++) {
            new ModelTest(run).go(check, run, answered, threw);
        }
        for (int op = 0; op < NAMES.length; op++) {
            check.due(NAMES[op] + " is answered often", Boolean.toString(answered[op] >= 25), "true");
        }
        check.end();
    }

    private void go(Check check, int run, int[] answered, int[] threw) {
        StringBuilder calls = new StringBuilder();
        for (int call = 0; call < CALLS; call++) {
            int op = !toWrite.isEmpty() ? APPEND : obeysNext ? OBEY : nextOp();
            obeysNext = obeysNext && op != OBEY;
            int a = first(op);
            int b = second(op);
            calls.append(' ').append(NAMES[op]).append('(').append(a).append(',').append(b).append(')');
            String due = Check.answer(() -> ofModel(op, a, b));
            String got = Check.answer(() -> ofProgram(op, a, b));
            if (Character.isLetter(due.charAt(0))) {
                threw[op]++;
            } else {
                answered[op]++;
            }
            if (got.equals(due) && call % 16 == 15) {
                due = Long.toString(model.digest());
                got = Long.toString(x.digest());
            }
            if (!got.equals(due)) {
                check.due("run " + run + ":" + calls, got, due);
                return;
            }
        }
    }

    private int nextOp() {
        int sum = 0;
        for (int weight : WEIGHTS[kind]) {
            sum += weight;
        }
        int left = random.nextInt(sum);
        int op = 0;
        while (left >= WEIGHTS[kind][op]) {
            left -= WEIGHTS[kind][op];
            op++;
        }
        if (op == APPEND && random.nextInt(3) > 0) {
            toWrite = text();
            obeysNext = random.nextInt(3) > 0;
        }
        return op;
    }

    /** Mostly below the bound; at times beside the range, or far from it. */
    private int below(int bound) {
        int luck = random.nextInt(60);
        if (luck == 0) {
            return -1;
        }
        if (luck == 1) {
            return bound;
        }
        if (luck == 2) {
            return random.nextInt();
        }
        return random.nextInt(bound);
    }

    private int aKey() {
        int keys = model.count(0);
        return keys == 0 ? below(2) : below(keys);
    }

    private int aCode() {
        if (kind == 1 || random.nextInt(3) == 0) {
            List<Integer> free = model.freeCodes();
            if (!free.isEmpty() && random.nextInt(4) > 0) {
                List<Integer> set = kind == 1 ? Model.chosen(free) : free;
                return set.get(random.nextInt(set.size()));
            }
        }
        return below(81);
    }

    private int first(int op) {
        switch (NAMES[op]) {
            case "cut", "code":
                return aCode();
            case "deepen", "retire", "give", "lose", "find", "turn", "key", "why", "worn", "crossedIn":
                return aKey();
            case "ward", "guest", "take", "lock":
                return below(6);
            case "set", "setting", "person":
                return below(4);
            case "append":
                return nextSign();
            case "level":
                return below(9);
            case "count":
                return below(12);
            case "stopped", "most":
                return below(2);
            case "pick":
                return below(20);
            case "opener":
                return random.nextInt(3) > 0 ? 1 << random.nextInt(6) : below(64);
            default:
                return 0;
        }
    }

    private int second(int op) {
        switch (NAMES[op]) {
            case "cut", "give", "deepen", "why", "level":
                return below(4);
            case "ward", "guest":
                return kind == 2 ? random.nextInt(14) : random.nextInt(9) == 0 ? -1 : below(81);
            case "turn", "lock", "code":
                return below(6);
            case "set":
                return below(kind == 2 ? 3 : 10);
            case "key":
                return below(10);
            case "person":
                return below(3);
            case "worn":
                return below(100);
            default:
                return 0;
        }
    }

    private int nextSign() {
        if (toWrite.isEmpty()) {
            return random.nextInt(5) == 0 ? below(128) : "cdtlf@,;0123".charAt(random.nextInt(12));
        }
        char sign = toWrite.charAt(0);
        toWrite = toWrite.substring(1);
        return sign;
    }

    /** Some orders, at times with a character changed; longer than the buffer only now and then. */
    private String text() {
        if (random.nextInt(3) > 0) {
            x.clearBuffer();
            model.clearBuffer();
        }
        StringBuilder text = new StringBuilder(order());
        int parts = random.nextInt(9);
        for (int i = 0; i < parts; i++) {
            text.append(';').append(order());
        }
        if (random.nextInt(6) == 0) {
            text.setCharAt(random.nextInt(text.length()), "cdtlf@,;0123".charAt(random.nextInt(12)));
        }
        return text.toString();
    }

    private String order() {
        int keys = Math.max(1, model.count(0));
        int key = random.nextInt(15) == 0 ? random.nextInt(12) : random.nextInt(keys);
        switch (random.nextInt(8)) {
            case 0, 1:
                int code = Math.max(0, Math.min(80, aCode()));
                String depths = Integer.toString(code, 3);
                return "c" + "0".repeat(4 - depths.length()) + depths + "@" + random.nextInt(4);
            case 2:
                return "d" + key + "," + random.nextInt(4);
            case 3:
                return "l" + key;
            case 4:
                return "f" + key;
            default:
                return "t" + key + "," + random.nextInt(6);
        }
    }

    private long ofProgram(int op, int a, int b) {
        switch (NAMES[op]) {
            case "cut": return x.cut(a, b);
            case "deepen": return x.deepen(a, b);
            case "retire": return x.retire(a);
            case "give": return x.give(a, b);
            case "lose": return x.lose(a);
            case "find": return x.find(a);
            case "ward": return x.ward(a, b);
            case "guest": return x.guest(a, b);
            case "take": return x.take(a);
            case "turn": return x.turn(a, b);
            case "set": return x.set(a, b);
            case "append": return x.append(a);
            case "clearBuffer": return x.clearBuffer();
            case "firstError": return x.firstError();
            case "obey": return x.obey();
            case "keep": return x.keep();
            case "goBack": return x.goBack();
            case "undo": return x.undo();
            case "key": return x.key(a, b);
            case "lock": return x.lock(a, b);
            case "person": return x.person(a, b);
            case "code": return x.code(a, b);
            case "level": return x.level(a, b);
            case "count": return x.count(a);
            case "setting": return x.setting(a);
            case "why": return x.why(a, b);
            case "stopped": return x.stopped(a);
            case "most": return x.most(a);
            case "pick": return x.pick(a);
            case "opener": return x.opener(a);
            case "worn": return x.worn(a, b);
            case "crossedIn": return x.crossedIn(a);
            case "freeShare": return Double.doubleToLongBits(x.freeShare());
            case "meanLevel": return Float.floatToIntBits(x.meanLevel());
            default: return x.digest();
        }
    }

    private long ofModel(int op, int a, int b) {
        switch (NAMES[op]) {
            case "cut": return model.cut(a, b);
            case "deepen": return model.deepen(a, b);
            case "retire": return model.retire(a);
            case "give": return model.give(a, b);
            case "lose": return model.lose(a);
            case "find": return model.find(a);
            case "ward": return model.ward(a, b);
            case "guest": return model.guest(a, b);
            case "take": return model.take(a);
            case "turn": return model.turn(a, b);
            case "set": return model.set(a, b);
            case "append": return model.append(a);
            case "clearBuffer": return model.clearBuffer();
            case "firstError": return model.firstError();
            case "obey": return model.obey();
            case "keep": return model.keep();
            case "goBack": return model.goBack();
            case "undo": return model.undo();
            case "key": return model.key(a, b);
            case "lock": return model.lock(a, b);
            case "person": return model.person(a, b);
            case "code": return model.code(a, b);
            case "level": return model.level(a, b);
            case "count": return model.count(a);
            case "setting": return model.setting(a);
            case "why": return model.why(a, b);
            case "stopped": return model.stopped(a);
            case "most": return model.most(a);
            case "pick": return model.pick(a);
            case "opener": return model.opener(a);
            case "worn": return model.worn(a, b);
            case "crossedIn": return model.crossedIn(a);
            case "freeShare": return Double.doubleToLongBits(model.freeShare());
            case "meanLevel": return Float.floatToIntBits(model.meanLevel());
            default: return model.digest();
        }
    }

    /** The model's way to the chosen set beside a look at every set, where there are few free codes. */
    private static void smallSets(Check check) {
        Random random = new Random(81);
        for (int round = 0; round < 150; round++) {
            List<Integer> codes = new ArrayList<>();
            int n = 1 + random.nextInt(12);
            for (int code = 0; code < 81; code++) {
                if (random.nextInt(81 - code) < n - codes.size()) {
                    codes.add(code);
                }
            }
            check.due("the chosen set of " + codes, Model.chosen(codes).toString(), bestOf(codes).toString());
        }
    }

    private static List<Integer> bestOf(List<Integer> codes) {
        List<Integer> best = new ArrayList<>();
        for (int mask = 0; mask < 1 << codes.size(); mask++) {
            List<Integer> set = new ArrayList<>();
            for (int i = 0; i < codes.size(); i++) {
                if ((mask >> i & 1) == 1) {
                    set.add(codes.get(i));
                }
            }
            if (set.size() >= best.size() && areApart(set) && (set.size() > best.size() || isLess(set, best))) {
                best = set;
            }
        }
        return best;
    }

    private static boolean areApart(List<Integer> set) {
        for (int i = 0; i < set.size(); i++) {
            for (int j = 0; j < i; j++) {
                if (!Model.apart(set.get(i), set.get(j))) {
                    return false;
                }
            }
        }
        return true;
    }

    private static boolean isLess(List<Integer> set, List<Integer> other) {
        for (int i = 0; i < set.size(); i++) {
            int order = Integer.compare(set.get(i), other.get(i));
            if (order != 0) {
                return order < 0;
            }
        }
        return false;
    }
}
