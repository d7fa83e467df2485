/** For each promise of ../shared/DOC.md answers worked out by hand: ordinary inputs, edges, wrong inputs. */
public final class PromiseTest {
    private static final Class<IllegalArgumentException> ARGUMENT = IllegalArgumentException.class;
    private static final Class<IllegalStateException> STATE = IllegalStateException.class;
    private static final Class<IndexOutOfBoundsException> INDEX = IndexOutOfBoundsException.class;

    /** The 19 codes of level 4, all apart: more than there can be keys. */
    private static final int[] LEVEL_4 = {
        8, 14, 16, 20, 22, 24, 32, 34, 38, 40, 42, 46, 48, 56, 58, 60, 64, 66, 72
    };

    private static final Check check = new Check();
    private static NotchedKeys x;

    private PromiseTest() {
    }

    public static void main(String[] args) {
        newObject();
        cut();
        cutReasons();
        deepen();
        deepenReasons();
        retire();
        give();
        loseAndFind();
        ward();
        guest();
        take();
        turn();
        wear();
        set();
        append();
        firstError();
        obey();
        obeyStops();
        obeyRefuses();
        snapshot();
        undo();
        undoAll();
        lastOfTwelve();
        looksAtKeys();
        looksAtLocks();
        looksAtPersons();
        looksAtCodes();
        looksAtLevels();
        counts();
        settings();
        most();
        opener();
        wornAndCrossedIn();
        shares();
        digest();
        check.end();
    }

    private static void fresh() {
        x = new NotchedKeys();
    }

    private static void due(String what, long got, long want) {
        check.due(what, got, want);
    }

    private static void dueThrow(String what, Check.Call call, Class<? extends RuntimeException> want) {
        check.dueThrow(what, x, call, want);
    }

    /** A code by its depths as digits. */
    private static int c(String depths) {
        return Integer.parseInt(depths, 3);
    }

    private static void write(String text) {
        for (int i = 0; i < text.length(); i++) {
            x.append(text.charAt(i));
        }
    }

    private static int obeyText(String text) {
        x.clearBuffer();
        write(text);
        return x.obey();
    }

    private static void twelveKeys() {
        fresh();
        for (int i = 0; i < 12; i++) {
            due("cut " + i, x.cut(LEVEL_4[i], i % 4), i);
        }
    }

    /** Keys of which some lie under others: each is cut while those before it are lost. */
    private static void crossedRow() {
        fresh();
        x.set(3, 0);
        String[] row = {"0111", "0011", "0211", "1211"};
        for (int k = 0; k < row.length; k++) {
            x.cut(c(row[k]), 1);
            x.lose(k);
        }
        for (int k = 0; k < row.length; k++) {
            x.find(k);
        }
    }

    private static void newObject() {
        fresh();
        for (int what = 0; what <= 11; what++) {
            due("new count " + what, x.count(what), what == 9 || what == 10 ? 81 : 0);
        }
        for (int place = 0; place < 6; place++) {
            due("new lock", x.lock(place, 0), -1);
        }
        due("new buffer", x.clearBuffer(), 0);
        due("new stop", x.stopped(0), -1);
        due("new stop reason", x.stopped(1), -1);
        dueThrow("new goBack", () -> x.goBack(), STATE);
        dueThrow("new undo", () -> x.undo(), STATE);
        dueThrow("new key", () -> x.key(0, 0), INDEX);
        due("NONE", NotchedKeys.NONE, -1);
        NotchedKeys other = new NotchedKeys();
        other.cut(40, 0);
        due("objects are apart", x.count(0), 0);
    }

    private static void cut() {
        fresh();
        due("cut", x.cut(c("0112"), 3), 0);
        due("pence of a cut", x.count(4), 8);
        due("cut", x.cut(c("0121"), 0), 1);
        due("its code", x.key(1, 0), c("0121"));
        due("its owner", x.key(0, 4), 3);
        due("saved", x.count(11), 2);
        x.set(1, 9);
        due("cut", x.cut(c("2200"), 1), 2);
        due("pence at 9", x.count(4), 16 + 36);
        dueThrow("code -1", () -> x.cut(-1, 0), ARGUMENT);
        dueThrow("code 81", () -> x.cut(81, 0), ARGUMENT);
        dueThrow("owner -1", () -> x.cut(c("1002"), -1), ARGUMENT);
        dueThrow("owner 4", () -> x.cut(c("1002"), 4), ARGUMENT);
        dueThrow("owner before the reason", () -> x.cut(c("0112"), 4), ARGUMENT);
        dueThrow("farthest code", () -> x.cut(Integer.MIN_VALUE, 0), ARGUMENT);
        dueThrow("farthest owner", () -> x.cut(0, Integer.MAX_VALUE), ARGUMENT);
        fresh();
        due("code 0", x.cut(0, 0), 0);
        due("no pence for level 0", x.count(4), 0);
        fresh();
        due("code 80", x.cut(80, 3), 0);
        due("pence for level 8", x.count(4), 16);
    }

    private static void cutReasons() {
        fresh();
        x.cut(c("0112"), 0);
        dueThrow("alike", () -> x.cut(c("0112"), 1), STATE);
        dueThrow("under", () -> x.cut(c("0012"), 1), STATE);
        dueThrow("over", () -> x.cut(c("0122"), 1), STATE);
        due("alike is 3", x.code(c("0112"), 2), 3);
        due("under is 4", x.code(c("0012"), 2), 4);
        due("over is 5", x.code(c("0122"), 2), 5);
        due("apart is 0", x.code(c("1111"), 2), 0);
        x.set(0, 1);
        due("unsound is 1, before the others", x.code(c("0022"), 2), 1);
        due("unsound, under", x.code(c("0002"), 2), 1);
        dueThrow("unsound", () -> x.cut(c("2011"), 1), STATE);
        x.set(0, 2);
        x.lose(0);
        due("lost keys count", x.code(c("0112"), 2), 3);
        x.set(3, 0);
        due("lost keys do not", x.code(c("0112"), 2), 0);
        due("cut again", x.cut(c("0112"), 1), 1);
        due("cut over", x.code(c("1112"), 2), 5);
        twelveKeys();
        due("twelve are 2", x.code(LEVEL_4[12], 2), 2);
        due("twelve before alike", x.code(LEVEL_4[0], 2), 2);
        due("but it is free", x.code(LEVEL_4[12], 5), 1);
        due("and this is not", x.code(LEVEL_4[0], 5), 0);
        dueThrow("twelve", () -> x.cut(LEVEL_4[12], 1), STATE);
        x.set(0, 1);
        due("unsound before twelve", x.code(c("2020"), 2), 1);
        x.set(0, 2);
        x.set(3, 0);
        x.lose(3);
        due("lost keys are keys of the twelve", x.code(LEVEL_4[12], 2), 2);
        // a late key that is alike goes before an early one that lies under it
        fresh();
        x.cut(c("0001"), 0);
        x.lose(0);
        x.set(3, 0);
        x.cut(c("0011"), 0);
        x.cut(c("1100"), 0);
        x.find(0);
        due("alike before over", x.code(c("0011"), 2), 3);
        due("under before over", x.code(c("0010"), 2), 4);
        x.retire(1);
        x.cut(c("0110"), 0);
        x.lose(0);
        x.cut(c("1011"), 0);
        x.find(0);
        due("under a late one before over an early one", x.code(c("0011"), 2), 4);
    }

    private static void deepen() {
        fresh();
        x.cut(c("0110"), 0);
        due("deepen", x.deepen(0, 0), c("1110"));
        due("pence", x.count(4), 4 + 2);
        due("deepen", x.deepen(0, 3), c("1111"));
        due("level", x.key(0, 1), 4);
        due("the code of the cut stays", x.key(0, 2), c("0110"));
        due("no wear", x.key(0, 9) + x.count(7) + x.key(0, 3), 0);
        x.lose(0);
        due("a lost key too", x.deepen(0, 2), c("1121"));
        due("saved", x.count(11), 5);
        x.set(1, 7);
        due("deepen", x.deepen(0, 1), c("1221"));
        due("pence at 7", x.count(4), 4 + 2 + 2 + 2 + 7);
        dueThrow("no key 1", () -> x.deepen(1, 0), INDEX);
        dueThrow("no key -1", () -> x.deepen(-1, 0), INDEX);
        dueThrow("no notch -1", () -> x.deepen(0, -1), INDEX);
        dueThrow("no notch 4", () -> x.deepen(0, 4), INDEX);
        dueThrow("notch 1 is 2 deep", () -> x.deepen(0, 1), STATE);
    }

    private static void deepenReasons() {
        fresh();
        x.cut(c("0211"), 0);
        x.cut(c("1111"), 0);
        x.cut(c("0121"), 0);
        due("6", x.why(0, 1), 6);
        due("5: over 1111", x.why(0, 0), 5);
        due("5: over 0121", x.why(0, 2), 5);
        due("0", x.why(0, 3), 0);
        due("its own code does not count", x.why(1, 0), 0);
        dueThrow("deepen for 5", () -> x.deepen(0, 0), STATE);
        due("why changes nothing", x.key(0, 0), c("0211"));
        x.lose(1);
        x.lose(2);
        due("lost keys count", x.why(0, 0), 5);
        x.set(3, 0);
        due("lost keys do not", x.why(0, 0), 0);
        x.set(0, 1);
        due("1 for 0212", x.why(0, 3), 1);
        due("still 6", x.why(0, 1), 6);
        due("deepen", x.deepen(0, 0), c("1211"));
        due("why of a lost key", x.why(1, 1), 3);
        due("why of a lost key", x.why(1, 3), 0);
        due("why of a lost key", x.why(2, 0), 0);
        fresh();
        x.cut(c("0011"), 0);
        x.set(0, 1);
        due("unsound deeper", x.deepen(0, 3), c("0012"));
        due("1", x.why(0, 0), 0);
        due("1 for 0022", x.why(0, 2), 1);
        dueThrow("deepen for 1", () -> x.deepen(0, 2), STATE);
        crossedRow();
        due("3 before 4", x.why(1, 1), 3);
        due("3 before 5", x.why(0, 1), 3);
        due("4 before 5", x.why(0, 0), 4);
        due("4", x.why(1, 0), 4);
        due("5", x.why(0, 2), 5);
        dueThrow("deepen for 3", () -> x.deepen(1, 1), STATE);
        dueThrow("deepen for 4", () -> x.deepen(1, 0), STATE);
        dueThrow("why of no key", () -> x.why(4, 0), INDEX);
        dueThrow("why of key -1", () -> x.why(-1, 0), INDEX);
        dueThrow("why of no notch", () -> x.why(0, 4), INDEX);
        dueThrow("why of notch -1", () -> x.why(0, -1), INDEX);
        // more than twelve is no reason for a deeper notch
        twelveKeys();
        x.retire(11);
        for (int k = 10; k > 0; k--) {
            x.retire(k);
        }
        due("deeper", x.why(0, 0), 0);
        twelveKeys();
        x.set(3, 0);
        for (int k = 1; k < 12; k++) {
            x.lose(k);
        }
        due("no reason 2 for a notch", x.why(0, 0), 0);
    }

    private static void retire() {
        fresh();
        x.ward(0, 0);
        x.cut(c("0011"), 1);
        x.cut(c("0101"), 2);
        x.cut(c("1001"), 3);
        x.turn(2, 0);
        x.lose(2);
        due("retire", x.retire(1), 2);
        due("moved up", x.key(1, 0), c("1001"));
        due("with its owner", x.key(1, 4), 3);
        due("with its uses", x.key(1, 3), 1);
        due("with its being lost", x.key(1, 5), 1);
        due("those before stay", x.key(0, 0), c("0011"));
        due("thrown away", x.count(8), 1);
        due("uses stay", x.count(5), 1);
        due("saved", x.count(11), 6);
        dueThrow("key 2 is gone", () -> x.retire(2), INDEX);
        dueThrow("key -1", () -> x.retire(-1), INDEX);
        due("a lost one", x.retire(1), 1);
        due("the last", x.retire(0), 0);
        due("lost", x.count(1), 0);
        due("uses stay", x.person(3, 2), 1);
        due("uses of the lock stay", x.lock(0, 3), 1);
        dueThrow("none left", () -> x.retire(0), INDEX);
        due("cut again", x.cut(c("0011"), 0), 0);
        x.set(2, 1);
        x.turn(0, 0);
        x.lose(0);
        due("retire a used, worn and lost one", x.retire(0), 0);
        due("cut again", x.cut(c("0011"), 0), 0);
        due("without uses", x.key(0, 3), 0);
        due("not lost", x.key(0, 5), 0);
        due("not worn", x.key(0, 9), 0);
        due("with its first code", x.key(0, 2), c("0011"));
        twelveKeys();
        due("retire the first of twelve", x.retire(0), 11);
        for (int k = 0; k < 11; k++) {
            due("key " + k, x.key(k, 0), LEVEL_4[k + 1]);
        }
        twelveKeys();
        due("retire the last of twelve", x.retire(11), 11);
        dueThrow("key 11 is gone", () -> x.key(11, 0), INDEX);
        due("key 10", x.key(10, 0), LEVEL_4[10]);
    }

    private static void give() {
        fresh();
        x.cut(c("0011"), 1);
        due("give", x.give(0, 3), 1);
        due("owner", x.key(0, 4), 3);
        due("give to the same", x.give(0, 3), 3);
        due("saved too", x.count(11), 3);
        x.lose(0);
        due("a lost one", x.give(0, 0), 3);
        due("still lost", x.key(0, 5), 1);
        dueThrow("no key", () -> x.give(1, 0), INDEX);
        dueThrow("key -1", () -> x.give(-1, 0), INDEX);
        dueThrow("no key before the owner", () -> x.give(1, 4), INDEX);
        dueThrow("owner 4", () -> x.give(0, 4), ARGUMENT);
        dueThrow("owner -1", () -> x.give(0, -1), ARGUMENT);
    }

    private static void loseAndFind() {
        fresh();
        x.ward(0, c("0011"));
        x.ward(1, c("0001"));
        x.guest(1, c("1000"));
        x.ward(5, c("2000"));
        x.cut(c("0011"), 1);
        dueThrow("find what is not lost", () -> x.find(0), STATE);
        due("lose", x.lose(0), 2);
        due("lost", x.key(0, 5), 1);
        due("lost keys", x.count(1), 1);
        dueThrow("lose twice", () -> x.lose(0), STATE);
        due("find", x.find(0), 2);
        due("found", x.key(0, 5), 0);
        due("lost keys", x.count(1), 0);
        due("saved", x.count(11), 6);
        due("no key opens", x.cut(c("0200"), 0), 1);
        due("lose", x.lose(1), 0);
        due("find", x.find(1), 0);
        dueThrow("lose no key", () -> x.lose(2), INDEX);
        dueThrow("lose key -1", () -> x.lose(-1), INDEX);
        dueThrow("find no key", () -> x.find(2), INDEX);
        dueThrow("find key -1", () -> x.find(-1), INDEX);
    }

    private static void ward() {
        fresh();
        due("ward", x.ward(0, 13), -1);
        due("ward", x.ward(0, 80), 13);
        due("its ward", x.lock(0, 0), 80);
        due("no guest", x.lock(0, 1), -1);
        due("uses", x.lock(0, 3), 0);
        due("failed tries", x.lock(0, 4), 0);
        due("locks", x.count(2), 1);
        x.guest(0, 5);
        x.cut(c("0012"), 0);
        x.turn(0, 0);
        due("ward again", x.ward(0, 79), 80);
        due("guest stays", x.lock(0, 1), 5);
        due("uses stay", x.lock(0, 3), 1);
        due("place 5", x.ward(5, 0), -1);
        due("ward 0 before", x.ward(5, 0), 0);
        dueThrow("place 6", () -> x.ward(6, 0), INDEX);
        dueThrow("place -1", () -> x.ward(-1, 0), INDEX);
        dueThrow("place before code", () -> x.ward(6, 81), INDEX);
        dueThrow("code 81", () -> x.ward(0, 81), ARGUMENT);
        dueThrow("code -1", () -> x.ward(0, -1), ARGUMENT);
        x.set(0, 1);
        due("an unsound ward", x.ward(1, c("0202")), -1);
    }

    private static void guest() {
        fresh();
        dueThrow("no lock", () -> x.guest(0, 3), STATE);
        dueThrow("no lock, none", () -> x.guest(0, -1), STATE);
        dueThrow("code before lock", () -> x.guest(0, 81), ARGUMENT);
        dueThrow("place before code", () -> x.guest(6, 81), INDEX);
        dueThrow("place -1", () -> x.guest(-1, 0), INDEX);
        x.ward(0, c("2222"));
        x.cut(c("1101"), 2);
        due("guest", x.guest(0, c("0101")), -1);
        due("opens by the guest ward", x.turn(0, 0), 1);
        due("guest", x.guest(0, 80), c("0101"));
        due("opens no more", x.turn(0, 0), 0);
        due("guest away", x.guest(0, NotchedKeys.NONE), 80);
        due("guest", x.lock(0, 1), -1);
        due("guest away again", x.guest(0, -1), -1);
        dueThrow("code -2", () -> x.guest(0, -2), ARGUMENT);
        due("guest 0", x.guest(0, 0), -1);
        due("opens", x.lock(0, 2), 1);
        due("guest 0 before", x.guest(0, 1), 0);
    }

    private static void take() {
        fresh();
        dueThrow("no lock", () -> x.take(0), STATE);
        dueThrow("place 6", () -> x.take(6), INDEX);
        dueThrow("place -1", () -> x.take(-1), INDEX);
        x.ward(3, c("0001"));
        x.guest(3, c("1100"));
        x.cut(c("0011"), 0);
        x.cut(c("1110"), 1);
        x.cut(c("0120"), 1);
        x.turn(0, 3);
        x.turn(2, 3);
        x.lose(1);
        due("take", x.take(3), 2);
        for (int what = 0; what <= 5; what++) {
            due("nothing there", x.lock(3, what), -1);
        }
        due("locks", x.count(2), 0);
        due("uses so far", x.count(5), 1);
        due("failed tries so far", x.count(6), 1);
        dueThrow("taken already", () -> x.take(3), STATE);
        due("a new lock", x.ward(3, c("0001")), -1);
        due("without guest", x.lock(3, 1), -1);
        due("without uses", x.lock(3, 3), 0);
        due("without failed tries", x.lock(3, 4), 0);
        due("take with no opener", x.ward(3, 80), 1);
        due("take with no opener", x.take(3), 0);
    }

    private static void turn() {
        fresh();
        x.ward(1, c("0110"));
        x.cut(c("0110"), 2);
        x.cut(c("2011"), 3);
        due("its ward", x.turn(0, 1), 1);
        due("not over it", x.turn(1, 1), 0);
        due("uses of the key", x.key(0, 3), 1);
        due("no use", x.key(1, 3), 0);
        due("uses of the owner", x.person(2, 2), 1);
        due("no use of the other", x.person(3, 2), 0);
        due("uses of the lock", x.lock(1, 3), 1);
        due("failed tries", x.lock(1, 4), 1);
        due("uses", x.count(5), 1);
        due("failed tries", x.count(6), 1);
        due("saved", x.count(11), 5);
        x.give(0, 3);
        due("over it", x.ward(1, c("0010")), c("0110"));
        due("over it", x.turn(0, 1), 1);
        due("uses of the new owner", x.person(3, 2), 1);
        due("uses of the old owner", x.person(2, 2), 1);
        dueThrow("no lock", () -> x.turn(0, 0), STATE);
        dueThrow("key 2", () -> x.turn(2, 1), INDEX);
        dueThrow("key -1", () -> x.turn(-1, 1), INDEX);
        dueThrow("place 6", () -> x.turn(0, 6), INDEX);
        dueThrow("place -1", () -> x.turn(0, -1), INDEX);
        x.lose(0);
        dueThrow("lost", () -> x.turn(0, 1), STATE);
        dueThrow("lost, place 6", () -> x.turn(0, 6), INDEX);
        x.find(0);
        due("found", x.turn(0, 1), 1);
    }

    private static void wear() {
        fresh();
        x.ward(0, 0);
        x.ward(1, c("2000"));
        x.cut(c("1020"), 1);
        for (int use = 1; use <= 3; use++) {
            x.turn(0, 0);
        }
        due("not worn", x.key(0, 0), c("1020"));
        x.turn(0, 1);
        due("a failed try is no use", x.key(0, 0), c("1020"));
        x.turn(0, 0);
        due("the first of the shallowest", x.key(0, 0), c("1120"));
        due("how often", x.key(0, 9), 1);
        due("how often in all", x.count(7), 1);
        due("no pence", x.count(4), 6);
        x.set(2, 1);
        x.turn(0, 0);
        due("the last", x.key(0, 0), c("1121"));
        x.turn(0, 0);
        due("the first", x.key(0, 0), c("2121"));
        due("not the code of the cut", x.key(0, 2), c("1020"));
        due("opens what it did not", x.turn(0, 1), 1);
        due("worn on", x.key(0, 0), c("2221"));
        x.turn(0, 0);
        due("deepest", x.key(0, 0), 80);
        due("how often", x.key(0, 9), 5);
        x.turn(0, 0);
        due("no deeper", x.key(0, 0), 80);
        due("not worn", x.key(0, 9), 5);
        due("not worn", x.count(7), 5);
        due("but used", x.key(0, 3), 9);
        fresh();
        x.ward(0, 0);
        x.cut(0, 0);
        x.set(2, 0);
        for (int use = 1; use <= 12; use++) {
            x.turn(0, 0);
        }
        due("never worn", x.key(0, 0), 0);
        x.set(2, 6);
        due("only by a use", x.key(0, 0), 0);
        x.turn(0, 0);
        due("13 is no multiple of 6", x.key(0, 0), 0);
        fresh();
        x.ward(0, 0);
        x.set(0, 1);
        x.set(2, 1);
        x.cut(c("1100"), 0);
        x.turn(0, 0);
        due("worn", x.key(0, 0), c("1110"));
        x.set(0, 1);
        x.cut(c("0012"), 0);
        x.cut(c("0111"), 0);
        x.turn(2, 0);
        due("worn into a crossed one", x.key(2, 0), c("1111"));
        due("crossed", x.count(3), 1);
        fresh();
        x.ward(0, 0);
        x.set(2, 1);
        x.cut(c("0022"), 0);
        x.set(0, 1);
        x.turn(0, 0);
        due("unsound, but worn", x.key(0, 0), c("1022"));
    }

    private static void set() {
        fresh();
        due("set 0", x.set(0, 1), 2);
        due("set 0", x.set(0, 2), 1);
        due("set 1", x.set(1, 9), 2);
        due("set 1", x.set(1, 1), 9);
        due("set 2", x.set(2, 9), 4);
        due("set 2", x.set(2, 0), 9);
        due("set 3", x.set(3, 0), 1);
        due("set 3", x.set(3, 1), 0);
        due("saved", x.count(11), 6);
        int[][] wrong = {{0, 0}, {0, 3}, {1, 0}, {1, 10}, {2, -1}, {2, 10}, {3, -1}, {3, 2}};
        for (int[] pair : wrong) {
            dueThrow("set " + pair[0] + " to " + pair[1], () -> x.set(pair[0], pair[1]), ARGUMENT);
        }
        dueThrow("setting 4", () -> x.set(4, 1), INDEX);
        dueThrow("setting -1", () -> x.set(-1, 1), INDEX);
        dueThrow("setting before value", () -> x.set(4, 99), INDEX);
        due("set to the same", x.set(2, 0), 0);
        x.undo();
        due("it was saved", x.count(11), 5);
    }

    private static void append() {
        fresh();
        dueThrow("32", () -> x.append(32), ARGUMENT);
        dueThrow("127", () -> x.append(127), ARGUMENT);
        dueThrow("65536 + 99", () -> x.append(65536 + 99), ARGUMENT);
        dueThrow("-1", () -> x.append(-1), ARGUMENT);
        due("33", x.append(33), 1);
        due("126", x.append(126), 2);
        due("not undoable", x.count(11), 0);
        due("clear", x.clearBuffer(), 2);
        due("clear again", x.clearBuffer(), 0);
        for (int i = 1; i <= 60; i++) {
            due("append", x.append('c'), i);
        }
        dueThrow("61", () -> x.append('c'), STATE);
        dueThrow("code before the full buffer", () -> x.append(32), ARGUMENT);
        due("clear", x.clearBuffer(), 60);
        due("append", x.append('c'), 1);
        due("clear is not undoable", x.count(11), 0);
    }

    private static void dueError(String text, int want) {
        x.clearBuffer();
        write(text);
        due("firstError of " + text, x.firstError(), want);
        due("firstError of " + text + " again", x.firstError(), want);
        due("it stays", x.clearBuffer(), text.length());
    }

    private static void firstError() {
        fresh();
        dueError("", 0);
        String whole = "c0120@3;d11,3;t10,5;l1;f0;t9,0";
        for (int end = 0; end <= whole.length(); end++) {
            dueError(whole.substring(0, end), end);
        }
        String[] wrong = {
            "x", ";", "1", "c3", "c03", "c003", "c0003", "c0000;", "c0000@4", "c0000@0,", "c00000", "c@",
            "d,", "d12", "d01", "d00", "d2;", "d1;", "d1,4", "d1,;", "d110", "d20", "t0,6", "t0;", "t11,50",
            "l12", "l00", "l01", "l20", "l,", "l1,", "l1l", "f0f", "f111", "l1;;", "l1;x", "C", "la", "f/", "f:"
        };
        for (String text : wrong) {
            dueError(text, text.length() - 1);
            dueError(text + "c0000@0", text.length() - 1);
            if (!text.startsWith(";")) {
                dueError("l10;" + text, text.length() + 3);
            }
        }
        dueError("l10;;", 4);
        StringBuilder longest = new StringBuilder();
        for (int i = 0; i < 20; i++) {
            longest.append("l0;");
        }
        dueError(longest.toString(), 60);
        due("not undoable", x.count(11), 0);
    }

    private static void obey() {
        fresh();
        x.ward(5, c("1000"));
        write("c1011@2;c0120@3;d0,0;t0,5;t1,5;l1;f1;l0");
        due("obey", x.obey(), 8);
        due("cleared", x.clearBuffer(), 0);
        due("no stop", x.stopped(0), -1);
        due("no reason", x.stopped(1), -1);
        due("saved once", x.count(11), 2);
        due("keys", x.count(0), 2);
        due("deeper", x.key(0, 0), c("2011"));
        due("owner", x.key(1, 4), 3);
        due("pence", x.count(4), 6 + 6 + 2);
        due("uses", x.count(5), 1);
        due("failed", x.count(6), 1);
        due("lost", x.count(1), 1);
        due("uses of the person", x.person(2, 2), 1);
        due("found", x.key(1, 5), 0);
        due("undo as one call", x.undo(), 1);
        due("no keys", x.count(0), 0);
        due("pence", x.count(4), 0);
        // keys with two digits, and wear within a text
        twelveKeys();
        x.ward(0, 0);
        x.set(2, 2);
        due("obey", obeyText("t10,0;t10,0;t11,0;l11"), 4);
        due("worn", x.key(10, 9), 1);
        due("lost", x.key(11, 5), 1);
        due("one use", x.key(11, 3), 1);
        due("obey the longest", obeyText("f11;t1,0;t1,0;t1,0;t1,0;t1,0;t1,0;t1,0;t1,0;t1,0;t1,0;t1,0"), 12);
        due("uses", x.key(1, 3), 11);
    }

    private static void dueStop(String text, int done, int order, int reason) {
        due("obey " + text, obeyText(text), done);
        due("stop of " + text, x.stopped(0), order);
        due("reason of " + text, x.stopped(1), reason);
        due("buffer behind " + text, x.clearBuffer(), 0);
    }

    private static void obeyStops() {
        fresh();
        x.ward(1, 0);
        x.set(0, 1);
        dueStop("c0202@0", 0, 0, 1);
        due("saved also if none is done", x.count(11), 3);
        dueStop("c0112@0;c0112@0;c1111@1", 1, 1, 3);
        due("not done behind the stop", x.count(0), 1);
        dueStop("c0111@0", 0, 0, 4);
        dueStop("c0122@0", 0, 0, 5);
        dueStop("d0,3", 0, 0, 6);
        dueStop("d0,2;d0,1", 1, 1, 1);
        dueStop("d0,0;d0,1;d0,0;d0,0", 3, 3, 6);
        dueStop("d1,0", 0, 0, 7);
        dueStop("t1,0", 0, 0, 7);
        dueStop("l1", 0, 0, 7);
        dueStop("f11", 0, 0, 7);
        dueStop("t0,0", 0, 0, 8);
        dueStop("f0", 0, 0, 9);
        dueStop("l0;t0,1", 1, 1, 9);
        dueStop("t0,0", 0, 0, 8);
        dueStop("l0", 0, 0, 9);
        dueStop("f0;t0,1", 2, -1, -1);
        dueStop("l1", 0, 0, 7);
        due("undo brings the stop before", x.undo(), 5);
        due("none", x.stopped(0), -1);
        due("none", x.stopped(1), -1);
        due("undo brings the stop before", x.undo(), 4);
        due("order", x.stopped(0), 0);
        due("reason", x.stopped(1), 9);
        x.give(0, 0);
        due("other calls let the stop be", x.stopped(1), 9);
        twelveKeys();
        dueStop("c2200@0", 0, 0, 2);
        dueStop("l3;c2200@0", 1, 1, 2);
        dueThrow("stopped 2", () -> x.stopped(2), ARGUMENT);
        dueThrow("stopped -1", () -> x.stopped(-1), ARGUMENT);
        crossedRow();
        dueStop("d1,1", 0, 0, 3);
        dueStop("d1,0", 0, 0, 4);
        dueStop("d0,2", 0, 0, 5);
    }

    private static void obeyRefuses() {
        fresh();
        dueThrow("empty", () -> x.obey(), ARGUMENT);
        String[] incomplete = {
            "c", "c0000", "c0000@", "d", "d1", "d1,", "d11", "t", "t0", "t0,", "l", "f", "l0;", "l0;c", "x", "l0;;",
            "l0l0", "l12", "l00", "c0000@4", "t0,6", "d0,4", "l0,"
        };
        for (String text : incomplete) {
            x.clearBuffer();
            write(text);
            dueThrow("obey " + text, () -> x.obey(), ARGUMENT);
            due("the buffer stays", x.clearBuffer(), text.length());
        }
        due("nothing is saved", x.count(11), 0);
        due("l1 is complete", obeyText("l1"), 0);
    }

    private static void snapshot() {
        fresh();
        x.ward(0, 0);
        x.cut(c("0011"), 1);
        x.turn(0, 0);
        long before = x.digest();
        due("keep", x.keep(), 1);
        due("keep is not undoable", x.count(11), 3);
        check.due("a snapshot shows in the digest", Boolean.toString(before == x.digest()), "false");
        write("l9");
        x.cut(c("1100"), 2);
        x.turn(1, 0);
        x.set(1, 5);
        x.retire(0);
        x.guest(0, 7);
        due("goBack", x.goBack(), 1);
        due("its code", x.key(0, 0), c("0011"));
        due("uses", x.count(5), 1);
        due("person", x.person(2, 2), 0);
        due("pence", x.count(4), 4);
        due("price", x.setting(1), 2);
        due("thrown away", x.count(8), 0);
        due("guest", x.lock(0, 1), -1);
        due("the buffer stays", x.firstError(), 2);
        due("goBack is undoable", x.undo(), 5);
        due("as before", x.key(0, 0), c("1100"));
        due("guest", x.lock(0, 1), 7);
        x.lose(0);
        due("goBack again", x.goBack(), 1);
        due("as kept", x.key(0, 5), 0);
        x.retire(0);
        due("another one", x.keep(), 0);
        x.cut(5, 0);
        due("goBack to it", x.goBack(), 0);
        x.undo();
        x.undo();
        x.undo();
        due("undo lets the snapshot be", x.goBack(), 0);
        // a snapshot holds the latest stop
        fresh();
        obeyText("l0");
        x.keep();
        obeyText("c0000@0");
        due("no stop", x.stopped(1), -1);
        x.goBack();
        due("the stop is back", x.stopped(1), 7);
    }

    private static void undo() {
        fresh();
        for (int i = 0; i < 8; i++) {
            x.cut(LEVEL_4[i], 0);
            due("saved", x.count(11), Math.min(i + 1, 6));
        }
        for (int i = 5; i >= 0; i--) {
            due("undo", x.undo(), i);
            due("keys", x.count(0), i + 2);
        }
        dueThrow("no more", () -> x.undo(), STATE);
        due("keys", x.count(0), 2);
        x.cut(LEVEL_4[10], 1);
        due("undo", x.undo(), 0);
        x.cut(LEVEL_4[10], 1);
        x.cut(LEVEL_4[11], 1);
        due("undo one", x.undo(), 1);
        x.cut(LEVEL_4[12], 1);
        due("undo the new one", x.undo(), 1);
        due("key 2", x.key(2, 0), LEVEL_4[10]);
        due("undo", x.undo(), 0);
        due("keys", x.count(0), 2);
        fresh();
        write("l0");
        x.cut(8, 0);
        x.append(';');
        x.undo();
        due("the buffer stays", x.clearBuffer(), 3);
    }

    /** Each undoable call is undone to the same digest, and goes to a state of its own. */
    private static void undoAll() {
        Check.Call[] calls = {
            () -> x.cut(c("2100"), 1), () -> x.deepen(0, 2), () -> x.retire(0), () -> x.give(1, 2),
            () -> x.lose(0), () -> x.find(1), () -> x.ward(4, 9), () -> x.ward(0, 9), () -> x.guest(0, 4),
            () -> x.guest(0, -1), () -> x.take(0), () -> x.turn(0, 0), () -> x.turn(0, 1), () -> x.set(2, 7),
            () -> x.goBack()
        };
        for (int i = 0; i < calls.length; i++) {
            fresh();
            obeyText("c0011@0;f0");
            x.keep();
            x.ward(0, 1);
            x.ward(1, 80);
            x.guest(0, 3);
            obeyText("c0200@1;l1;t0,0;t0,1;t0,0;t0,0;f0");
            long before = x.digest();
            calls[i].run();
            due("call " + i + " saves", x.count(11), 6);
            check.due("call " + i + " changes", Boolean.toString(before == x.digest()), "false");
            due("call " + i + " undone", x.undo(), 5);
            due("call " + i + " undone", x.digest(), before);
        }
    }

    /** As many keys as there can be, of which the last one is looked at in every way. */
    private static void lastOfTwelve() {
        twelveKeys();
        int last = LEVEL_4[11];
        x.ward(2, last);
        x.retire(0);
        x.cut(LEVEL_4[0], 2);
        due("the last key", x.key(11, 0), LEVEL_4[0]);
        x.ward(2, LEVEL_4[0]);
        due("who could open", x.lock(2, 5), 4);
        due("the keys that open", x.lock(2, 2), 1 << 11);
        due("the keys of a person", x.person(2, 0) >> 11, 1);
        due("the locks of a person", x.person(2, 1), 4);
        due("keys of the level", x.level(4, 2), 12);
        check.due("mean level", Float.toString(x.meanLevel()), "4.0");
        x.set(2, 1);
        x.turn(11, 2);
        // 0022 is 1022 now, and over 1012 and 1021
        due("keys over 1012", x.key(5, 0), c("1012"));
        due("keys over 1012", x.key(5, 7), 1 << 11);
        due("keys under 1022", x.key(11, 8), (1 << 5) + (1 << 6));
        due("crossed pairs", x.count(3), 2);
        due("crossed with the last", x.crossedIn(5), 0);
        due("crossed with others", x.crossedIn(11), 0);
        x.lose(11);
        due("lost", x.count(1), 1);
        due("who could open", x.lock(2, 5), 16);
        x.keep();
        x.retire(11);
        due("goBack to twelve", x.goBack(), 12);
        due("the last key", x.key(11, 0), c("1022"));
        due("its first code", x.key(11, 2), c("0022"));
        due("its uses", x.key(11, 3), 1);
        due("its wear", x.key(11, 9), 1);
        x.find(11);
        due("undo", x.undo(), 5);
        due("lost again", x.key(11, 5), 1);
    }

    private static void looksAtKeys() {
        fresh();
        x.ward(0, c("0001"));
        x.ward(2, c("0010"));
        x.ward(3, c("1001"));
        x.ward(5, c("2222"));
        x.guest(5, c("0011"));
        x.cut(c("0011"), 2);
        x.lose(0);
        x.set(3, 0);
        x.cut(c("0012"), 1);
        x.cut(c("0111"), 1);
        x.cut(c("1001"), 0);
        x.find(0);
        due("code", x.key(0, 0), 4);
        due("level", x.key(1, 1), 3);
        due("first code", x.key(1, 2), 5);
        due("uses", x.key(1, 3), 0);
        due("owner", x.key(0, 4), 2);
        due("lost", x.key(0, 5), 0);
        due("opens", x.key(0, 6), 1 + 4 + 32);
        due("opens", x.key(3, 6), 1 + 8);
        due("keys over", x.key(0, 7), 2 + 4);
        due("keys under", x.key(0, 8), 0);
        due("keys over", x.key(1, 7), 0);
        due("keys under", x.key(1, 8), 1);
        due("keys under", x.key(3, 8), 0);
        due("worn", x.key(0, 9), 0);
        x.lose(1);
        x.lose(0);
        due("lost ones too", x.key(0, 7), 2 + 4);
        due("a lost one opens", x.key(0, 6), 1 + 4 + 32);
        dueThrow("key 4", () -> x.key(4, 0), INDEX);
        dueThrow("key -1", () -> x.key(-1, 0), INDEX);
        dueThrow("key before what", () -> x.key(4, 10), INDEX);
        dueThrow("what 10", () -> x.key(0, 10), ARGUMENT);
        dueThrow("what -1", () -> x.key(0, -1), ARGUMENT);
    }

    private static void looksAtLocks() {
        fresh();
        x.ward(0, c("0001"));
        x.cut(c("0011"), 3);
        x.cut(c("0101"), 1);
        x.cut(c("1010"), 2);
        due("who", x.lock(0, 5), 8 + 2);
        due("keys", x.lock(0, 2), 1 + 2);
        x.lose(0);
        due("who with a lost one", x.lock(0, 5), 16 + 2);
        due("lost ones too", x.lock(0, 2), 1 + 2);
        x.give(1, 3);
        x.lose(2);
        due("who", x.lock(0, 5), 16 + 8);
        due("ward", x.lock(0, 0), 1);
        due("guest", x.lock(0, 1), -1);
        x.guest(0, c("1000"));
        due("guest", x.lock(0, 1), 27);
        due("keys by the guest ward", x.lock(0, 2), 7);
        due("no lock", x.lock(1, 5), -1);
        dueThrow("place 6", () -> x.lock(6, 0), INDEX);
        dueThrow("place -1", () -> x.lock(-1, 0), INDEX);
        dueThrow("place before what", () -> x.lock(6, 6), INDEX);
        dueThrow("what 6", () -> x.lock(0, 6), ARGUMENT);
        dueThrow("what -1", () -> x.lock(0, -1), ARGUMENT);
        dueThrow("what 6 without a lock", () -> x.lock(1, 6), ARGUMENT);
        dueThrow("what -1 without a lock", () -> x.lock(1, -1), ARGUMENT);
    }

    private static void looksAtPersons() {
        fresh();
        x.ward(0, c("0001"));
        x.ward(4, c("0100"));
        x.cut(c("0011"), 3);
        x.cut(c("1100"), 3);
        x.cut(c("0210"), 0);
        due("keys", x.person(3, 0), 3);
        due("keys", x.person(0, 0), 4);
        due("no keys", x.person(1, 0), 0);
        due("locks", x.person(3, 1), 1 + 16);
        due("locks", x.person(0, 1), 16);
        due("no locks", x.person(1, 1), 0);
        x.lose(0);
        due("lost keys too", x.person(3, 0), 3);
        due("not with lost keys", x.person(3, 1), 16);
        x.turn(1, 4);
        x.turn(1, 4);
        x.turn(1, 0);
        due("uses", x.person(3, 2), 2);
        x.retire(1);
        due("of whatever key", x.person(3, 2), 2);
        dueThrow("person 4", () -> x.person(4, 0), INDEX);
        dueThrow("person -1", () -> x.person(-1, 0), INDEX);
        dueThrow("person before what", () -> x.person(4, 3), INDEX);
        dueThrow("what 3", () -> x.person(0, 3), ARGUMENT);
        dueThrow("what -1", () -> x.person(0, -1), ARGUMENT);
    }

    private static void looksAtCodes() {
        fresh();
        due("level", x.code(80, 0), 8);
        due("level", x.code(c("0121"), 0), 4);
        due("sound", x.code(c("0202"), 1), 1);
        due("over 0", x.code(0, 3), 80);
        due("under 0", x.code(0, 4), 0);
        due("over 0121", x.code(c("0121"), 3), 3 * 2 * 1 * 2 - 1);
        due("under 0121", x.code(c("0121"), 4), 1 * 2 * 3 * 2 - 1);
        due("free", x.code(80, 5), 1);
        x.set(0, 1);
        due("not sound", x.code(c("0202"), 1), 0);
        due("not sound", x.code(c("0020"), 1), 0);
        due("not sound", x.code(c("2011"), 1), 0);
        due("not sound", x.code(c("1102"), 1), 0);
        due("sound", x.code(c("0121"), 1), 1);
        due("not free", x.code(c("0202"), 5), 0);
        due("why", x.code(c("0202"), 2), 1);
        due("sound ones over 0", x.code(0, 3), 40);
        // over 0200: 2 in the notch 1, so 1 or 2 beside it, and 1 or 2, then within 1
        due("sound ones over an unsound one", x.code(c("0200"), 3), 2 * (3 + 2));
        due("sound ones under 2211", x.code(c("2211"), 4), 23);
        x.cut(c("1111"), 0);
        due("alike", x.code(c("1111"), 2), 3);
        due("not free", x.code(c("1111"), 5), 0);
        due("level stays", x.code(c("1111"), 0), 4);
        dueThrow("code 81", () -> x.code(81, 0), ARGUMENT);
        dueThrow("code -1", () -> x.code(-1, 0), ARGUMENT);
        dueThrow("what 6", () -> x.code(0, 6), ARGUMENT);
        dueThrow("what -1", () -> x.code(0, -1), ARGUMENT);
    }

    private static void looksAtLevels() {
        fresh();
        int[] sizes = {1, 4, 10, 16, 19, 16, 10, 4, 1};
        for (int level = 0; level <= 8; level++) {
            due("sound of level " + level, x.level(level, 0), sizes[level]);
            due("free of level " + level, x.level(level, 1), sizes[level]);
            due("no keys of level " + level, x.level(level, 2), 0);
        }
        due("least of level 0", x.level(0, 3), 0);
        due("least of level 3", x.level(3, 3), c("0012"));
        due("least of level 8", x.level(8, 3), 80);
        x.cut(c("0012"), 0);
        due("keys", x.level(3, 2), 1);
        due("free", x.level(3, 1), 15);
        due("sound", x.level(3, 0), 16);
        due("least", x.level(3, 3), c("0021"));
        due("none free", x.level(0, 3), -1);
        due("none free", x.level(8, 3), -1);
        x.lose(0);
        due("lost keys too", x.level(3, 2), 1);
        x.set(0, 1);
        due("sound of level 1", x.level(1, 0), 4);
        due("sound of level 2", x.level(2, 0), 6);
        due("sound of level 7", x.level(7, 0), 4);
        dueThrow("level 9", () -> x.level(9, 0), INDEX);
        dueThrow("level -1", () -> x.level(-1, 0), INDEX);
        dueThrow("level before what", () -> x.level(9, 4), INDEX);
        dueThrow("what 4", () -> x.level(0, 4), ARGUMENT);
        dueThrow("what -1", () -> x.level(0, -1), ARGUMENT);
    }

    private static void counts() {
        fresh();
        x.cut(c("0001"), 0);
        x.lose(0);
        x.set(3, 0);
        x.cut(c("0011"), 0);
        x.lose(1);
        x.cut(c("0111"), 0);
        x.lose(2);
        x.cut(c("0111"), 0);
        x.ward(0, 80);
        x.ward(5, 1);
        due("keys", x.count(0), 4);
        due("lost", x.count(1), 3);
        due("locks", x.count(2), 2);
        due("crossed", x.count(3), 6);
        due("pence", x.count(4), 2 + 4 + 6 + 6);
        x.find(2);
        x.turn(2, 5);
        x.turn(2, 0);
        x.turn(3, 0);
        due("uses", x.count(5), 1);
        due("failed", x.count(6), 2);
        due("worn", x.count(7), 0);
        x.retire(2);
        due("thrown away", x.count(8), 1);
        due("crossed", x.count(3), 3);
        due("uses stay", x.count(5), 1);
        x.set(0, 1);
        due("sound", x.count(9), 41);
        x.set(0, 2);
        due("sound", x.count(9), 81);
        // free: neither under 0111 (8 codes with it) nor over it (2 * 2 * 2 * 3 codes with it)
        due("free", x.count(10), 81 - 8 - 24 + 1);
        due("saved", x.count(11), 6);
        dueThrow("what 12", () -> x.count(12), ARGUMENT);
        dueThrow("what -1", () -> x.count(-1), ARGUMENT);
    }

    private static void settings() {
        fresh();
        due("setting 0", x.setting(0), 2);
        due("setting 1", x.setting(1), 2);
        due("setting 2", x.setting(2), 4);
        due("setting 3", x.setting(3), 1);
        x.set(2, 9);
        due("setting 2", x.setting(2), 9);
        dueThrow("setting 4", () -> x.setting(4), INDEX);
        dueThrow("setting -1", () -> x.setting(-1), INDEX);
    }

    private static void most() {
        fresh();
        due("the middle level", x.most(0), 19);
        due("the middle level", x.most(1), 19);
        for (int rank = 0; rank < 19; rank++) {
            due("pick " + rank, x.pick(rank), LEVEL_4[rank]);
        }
        due("pick 19", x.pick(19), -1);
        fresh();
        due("pick before all else", x.pick(18), LEVEL_4[18]);
        due("pick of a far rank", x.pick(Integer.MAX_VALUE), -1);
        dueThrow("pick -1", () -> x.pick(-1), INDEX);
        dueThrow("most 2", () -> x.most(2), ARGUMENT);
        dueThrow("most -1", () -> x.most(-1), ARGUMENT);
        twelveKeys();
        due("free but for the twelve", x.most(0), 7);
        due("free but for the twelve", x.most(1), 7);
        for (int rank = 0; rank < 7; rank++) {
            due("pick " + rank, x.pick(rank), LEVEL_4[rank + 12]);
        }
        fresh();
        x.cut(0, 0);
        due("none free", x.most(0), 0);
        due("none free", x.most(1), 0);
        due("none free", x.pick(0), -1);
        x.undo();
        due("free again", x.most(1), 19);
        x.cut(80, 0);
        due("none free", x.most(1), 0);
        x.undo();
        x.cut(c("0222"), 0);
        // free are 1xyz and 2xyz but for xyz = 222; the widest levels of 1xyz and 2xyz have 13 codes
        due("chains behind 0222", x.most(0), 13);
        due("codes behind 0222", x.most(1), 13);
        due("1012 is the least of level 4", x.pick(0), c("1012"));
        dueThrow("alike", () -> x.cut(c("0222"), 0), STATE);
    }

    private static void opener() {
        fresh();
        dueThrow("no lock", () -> x.opener(1), ARGUMENT);
        dueThrow("empty set", () -> x.opener(0), ARGUMENT);
        x.ward(0, c("0201"));
        x.guest(0, c("1110"));
        x.ward(1, c("0011"));
        x.ward(5, c("2000"));
        due("one", x.opener(1), c("0201"));
        due("two", x.opener(3), c("0211"));
        due("least code of one level", x.opener(2), c("0011"));
        due("three", x.opener(1 + 2 + 32), c("2111"));
        x.set(0, 1);
        due("sound only", x.opener(1), c("1110"));
        due("sound over an unsound ward", x.opener(32), c("2100"));
        x.guest(0, -1);
        due("sound over an unsound ward", x.opener(1), c("1211"));
        dueThrow("a place without a lock", () -> x.opener(1 + 4), ARGUMENT);
        dueThrow("no place 6", () -> x.opener(64), ARGUMENT);
        dueThrow("no place 6", () -> x.opener(65), ARGUMENT);
        dueThrow("negative", () -> x.opener(-1), ARGUMENT);
        dueThrow("negative", () -> x.opener(Integer.MIN_VALUE), ARGUMENT);
        x.take(0);
        dueThrow("taken", () -> x.opener(1), ARGUMENT);
        x.ward(3, 80);
        due("the deepest", x.opener(2 + 8 + 32), 80);
        x.ward(3, 0);
        due("0", x.opener(8), 0);
        x.set(0, 2);
        x.ward(0, c("0020"));
        x.guest(0, c("1001"));
        x.guest(3, c("0002"));
        x.ward(3, c("2000"));
        due("of two the least code", x.opener(8), c("0002"));
        due("of one level the least code", x.opener(1), c("0020"));
        due("of one level the least code", x.opener(9), c("1002"));
    }

    private static void wornAndCrossedIn() {
        fresh();
        x.ward(0, 0);
        x.cut(c("0110"), 0);
        due("worn 0", x.worn(0, 0), c("0110"));
        due("worn 3", x.worn(0, 3), c("0110"));
        due("worn 4", x.worn(0, 4), c("1110"));
        due("worn 8", x.worn(0, 8), c("1111"));
        due("worn 23", x.worn(0, 23), c("2221"));
        due("worn 24", x.worn(0, 24), 80);
        due("worn 99", x.worn(0, 99), 80);
        x.turn(0, 0);
        due("worn 3 behind one use", x.worn(0, 3), c("1110"));
        due("it is not", x.key(0, 0), c("0110"));
        x.lose(0);
        due("a lost one", x.worn(0, 3), c("1110"));
        due("alone", x.crossedIn(0), -1);
        x.cut(c("1020"), 0);
        due("crossed in", x.crossedIn(0), 19);
        due("crossed in", x.crossedIn(1), 4);
        x.set(2, 0);
        due("never worn", x.crossedIn(0), -1);
        due("never worn", x.worn(0, 99), c("0110"));
        x.set(2, 9);
        due("in 9", x.worn(0, 8), c("1110"));
        due("in 9", x.worn(0, 7), c("0110"));
        dueThrow("worn of no key", () -> x.worn(2, 0), INDEX);
        dueThrow("worn of key -1", () -> x.worn(-1, 0), INDEX);
        dueThrow("key before uses", () -> x.worn(2, 100), INDEX);
        dueThrow("uses 100", () -> x.worn(0, 100), ARGUMENT);
        dueThrow("uses -1", () -> x.worn(0, -1), ARGUMENT);
        dueThrow("crossedIn of no key", () -> x.crossedIn(2), INDEX);
        dueThrow("crossedIn of key -1", () -> x.crossedIn(-1), INDEX);
        fresh();
        x.set(2, 1);
        x.cut(c("0002"), 0);
        x.cut(c("1000"), 0);
        due("behind the first use", x.crossedIn(0), 1);
        due("1100, 1110, 1111, 2111, 2211, 2221 are apart from 0002", x.crossedIn(1), 7);
        // 0002 goes 1002, 1102, 1112, 2112, 2212, 2222; it meets 2210 as the last one
        fresh();
        x.cut(c("0002"), 0);
        x.cut(c("2220"), 0);
        x.set(2, 9);
        due("the last", x.crossedIn(0), 54);
        due("the first", x.crossedIn(1), 18);
        due("uses 18 of key 1", x.worn(1, 18), 80);
        x.set(3, 0);
        x.lose(1);
        due("a lost one counts", x.crossedIn(0), 54);
        x.lose(0);
        x.cut(c("1222"), 0);
        due("crossed already", x.crossedIn(2), 0);
        due("the other one", x.crossedIn(0), 0);
        fresh();
        x.set(2, 9);
        x.ward(0, 0);
        x.cut(0, 0);
        for (int use = 0; use < 8; use++) {
            x.turn(0, 0);
        }
        x.lose(0);
        x.set(3, 0);
        x.cut(80, 0);
        due("over 0 from the first", x.crossedIn(0), 0);
        due("behind 1, 10, .. 64 further uses", x.worn(0, 64), 80);
        due("one less", x.worn(0, 63), c("2221"));
    }

    private static void dueShare(String what, double got, double want) {
        due(what, Double.doubleToLongBits(got), Double.doubleToLongBits(want));
    }

    private static void shares() {
        fresh();
        dueShare("all are free", x.freeShare(), 1.0);
        dueShare("no keys", x.meanLevel(), 0.0f);
        due("no minus", Float.floatToIntBits(x.meanLevel()), 0);
        x.cut(c("0111"), 0);
        dueShare("50 of 81", x.freeShare(), 50.0 / 81.0);
        dueShare("one key", x.meanLevel(), 3.0f);
        x.cut(c("2000"), 0);
        x.cut(c("1022"), 0);
        dueShare("10 of 3", x.meanLevel(), 10.0f / 3.0f);
        fresh();
        x.cut(0, 0);
        dueShare("none is free", x.freeShare(), 0.0);
        dueShare("level 0", x.meanLevel(), 0.0f);
        fresh();
        x.set(0, 1);
        x.cut(c("1111"), 0);
        // sound and apart from 1111: each with a 0 and a 2, so not of {0,1} or {1,2} alone
        dueShare("of the sound ones", x.freeShare(), 10.0 / 41.0);
        x.lose(0);
        dueShare("lost keys too", x.meanLevel(), 4.0f);
        x.set(3, 0);
        dueShare("all are free", x.freeShare(), 1.0);
    }

    private static void digest() {
        fresh();
        due("digest of a new object", x.digest(), Told.digest(x, false, ""));
        write("c01~!");
        due("digest with a buffer", x.digest(), Told.digest(x, false, "c01~!"));
        x.keep();
        due("digest with a snapshot", x.digest(), Told.digest(x, true, "c01~!"));
        due("saves nothing", x.count(11), 0);
        for (int i = 0; i < 12; i++) {
            x.cut(LEVEL_4[i], i % 3);
            x.ward(i % 6, LEVEL_4[i + 1] - 3);
            due("digest with keys", x.digest(), Told.digest(x, true, "c01~!"));
            x.turn(i, i % 6);
            due("digest with uses", x.digest(), Told.digest(x, true, "c01~!"));
        }
        x.lose(6);
        x.lose(7);
        x.set(3, 0);
        x.set(1, 5);
        x.deepen(0, 0);
        due("digest with a deeper key", x.digest(), Told.digest(x, true, "c01~!"));
        obeyText("l3;t4,1;t3,1");
        due("digest with a stop", x.digest(), Told.digest(x, true, ""));
        due("digest again", x.digest(), Told.digest(x, true, ""));
        // shares and means of many sizes, as bits
        fresh();
        x.set(3, 0);
        x.cut(0, 0);
        due("nothing free, mean 0", x.digest(), Told.digest(x, false, ""));
        x.lose(0);
        x.cut(1, 0);
        due("few free, mean 0.5", x.digest(), Told.digest(x, false, ""));
        x.lose(1);
        x.cut(0, 0);
        x.retire(0);
        due("mean 0.5", x.digest(), Told.digest(x, false, ""));
        x.retire(1);
        due("mean 1", x.digest(), Told.digest(x, false, ""));
        x.cut(c("0222"), 0);
        due("mean 3.5", x.digest(), Told.digest(x, false, ""));
        x.cut(c("2000"), 0);
        due("mean 3", x.digest(), Told.digest(x, false, ""));
        x.cut(c("1022"), 0);
        x.cut(c("1202"), 0);
        due("mean 3.8", x.digest(), Told.digest(x, false, ""));
    }
}
