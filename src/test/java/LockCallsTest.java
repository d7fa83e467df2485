import java.util.function.Supplier;

/** The sentences of the promises 8 to 12, about locks and settings, each with a test of its own. */
public final class LockCallsTest {
    private static final Class<IllegalArgumentException> ARGUMENT = IllegalArgumentException.class;
    private static final Class<IllegalStateException> STATE = IllegalStateException.class;
    private static final Class<IndexOutOfBoundsException> INDEX = IndexOutOfBoundsException.class;

    private static final Sentences s = new Sentences();

    private LockCallsTest() {
    }

    public static void main(String[] args) {
        ward();
        guest();
        take();
        turn();
        set();
        s.end();
    }

    private static void due(String what, long got, long want) {
        s.check.due(what, got, want);
    }

    private static int c(String depths) {
        return Fixtures.c(depths);
    }

    /** A lock at each place, no matter whether the call needs one; what is no place is refused. */
    private static void places(Twins.NumberCall call) {
        s.twins.range("place", Fixtures::full, call, 0, 5, INDEX);
        s.twins.refuses("place 6 without locks", Fixtures::fresh, x -> call.run(x, 6), INDEX);
        s.twins.refuses("place -1 without locks", Fixtures::fresh, x -> call.run(x, -1), INDEX);
    }

    private static void ward() {
        s.section("Promise 8:");
        s.holds("Gives the lock at a place a ward", () -> {
            NotchedKeys x = Fixtures.busy();
            x.ward(3, 7);
            due("ward", x.lock(3, 0), 7);
            due("the guest ward stays", x.lock(3, 1), c("0011"));
            due("failed tries stay", x.lock(3, 4), 1);
            due("uses stay", x.lock(3, 3), 1);
            due("locks", x.count(2), 2);
        });
        s.holds("if there is no lock, one comes, without a guest ward, and without uses and failed tries", () -> {
            NotchedKeys x = Fixtures.busy();
            x.ward(0, c("2000"));
            x.guest(0, c("2222"));
            x.turn(0, 0);
            due("failed tries", x.lock(0, 4), 1);
            x.take(0);
            x.ward(0, 0);
            due("locks", x.count(2), 2);
            due("ward", x.lock(0, 0), 0);
            due("guest ward", x.lock(0, 1), -1);
            due("uses", x.lock(0, 3), 0);
            due("failed tries", x.lock(0, 4), 0);
            due("uses so far stay", x.count(5), 3);
            due("failed tries so far stay", x.count(6), 2);
        });
        s.holds("Undoable.", () -> {
            s.twins.undoable("ward of a new lock", Fixtures::busy, x -> x.ward(1, 9));
            s.twins.undoable("ward", Fixtures::busy, x -> x.ward(3, 9));
            s.twins.undoable("the ward that it has", Fixtures::busy, x -> x.ward(3, 80));
            s.twins.undoable("the first lock", Fixtures::fresh, x -> x.ward(5, 0));
        });
        s.holds("`lock`: 0 to 5", () -> places((x, lock) -> x.ward(lock, 13)));
        s.holds("`code`: 0 to 80", () -> {
            s.twins.range("ward", Fixtures::busy, (x, code) -> x.ward(3, code), 0, 80, ARGUMENT);
            s.twins.range("ward of a new lock", Fixtures::fresh, (x, code) -> x.ward(0, code), 0, 80, ARGUMENT);
        });
        s.holds("Returns the ward before, NONE if there was no lock", () -> {
            NotchedKeys x = new NotchedKeys();
            due("no lock", x.ward(5, 0), -1);
            due("ward 0", x.ward(5, 80), 0);
            due("ward 80", x.ward(5, 1), 80);
            x.take(5);
            due("no lock again", x.ward(5, 1), -1);
        });
        s.holds("Throws `IndexOutOfBoundsException` if there is no such place",
                () -> s.twins.refuses("no place and no code", Fixtures::busy, x -> x.ward(6, 81), INDEX));
        s.holds("Throws `IllegalArgumentException` if code is out of range",
                () -> s.twins.refuses("NONE", Fixtures::busy, x -> x.ward(3, NotchedKeys.NONE), ARGUMENT));
    }

    private static void guest() {
        s.section("Promise 9:");
        s.holds("Gives a lock a guest ward, or takes it away.", () -> {
            NotchedKeys x = Fixtures.busy();
            x.guest(3, 0);
            due("another one", x.lock(3, 1), 0);
            x.guest(3, -1);
            due("none", x.lock(3, 1), -1);
            due("the ward stays", x.lock(3, 0), 80);
            due("the uses stay", x.lock(3, 3), 1);
            x.guest(0, 80);
            due("a first one", x.lock(0, 1), 80);
        });
        s.holds("Undoable.", () -> {
            s.twins.undoable("a first guest ward", Fixtures::busy, x -> x.guest(0, 9));
            s.twins.undoable("another guest ward", Fixtures::busy, x -> x.guest(3, 9));
            s.twins.undoable("no guest ward", Fixtures::busy, x -> x.guest(3, -1));
            s.twins.undoable("none, as before", Fixtures::busy, x -> x.guest(0, -1));
            s.twins.undoable("the one that it has", Fixtures::busy, x -> x.guest(3, c("0011")));
        });
        s.holds("`lock`: 0 to 5", () -> places((x, lock) -> x.guest(lock, 13)));
        s.holds("`code`: 0 to 80, or NONE: it has no guest ward then", () -> {
            s.twins.range("guest ward", Fixtures::busy, (x, code) -> x.guest(3, code), -1, 80, ARGUMENT);
            NotchedKeys x = Fixtures.busy();
            due("the key opens by the guest ward", x.lock(3, 2), 1);
            x.guest(3, NotchedKeys.NONE);
            due("without it, no key does", x.lock(3, 2), 0);
        });
        s.holds("Returns the guest ward before, NONE without one", () -> {
            NotchedKeys x = Fixtures.sixLocks();
            due("none", x.guest(5, 0), -1);
            due("0", x.guest(5, 80), 0);
            due("80", x.guest(5, -1), 80);
            due("none", x.guest(5, -1), -1);
        });
        s.holds("Throws `IndexOutOfBoundsException` if there is no such place",
                () -> s.twins.refuses("no place and no code", Fixtures::busy, x -> x.guest(-1, 81), INDEX));
        s.holds("Throws `IllegalArgumentException` if code is out of range", () -> {
            s.twins.refuses("no lock and no code", Fixtures::busy, x -> x.guest(1, 81), ARGUMENT);
            s.twins.refuses("no lock and code -2", Fixtures::busy, x -> x.guest(1, -2), ARGUMENT);
        });
        s.holds("Throws `IllegalStateException` if there is no lock", () -> {
            s.twins.refuses("no lock", Fixtures::busy, x -> x.guest(1, 0), STATE);
            s.twins.refuses("no lock, NONE", Fixtures::busy, x -> x.guest(5, NotchedKeys.NONE), STATE);
            s.twins.refuses("no lock at all", Fixtures::fresh, x -> x.guest(0, 80), STATE);
        });
    }

    private static void take() {
        s.section("Promise 10:");
        s.holds("Takes a lock away.", () -> {
            NotchedKeys x = Fixtures.busy();
            x.take(3);
            for (int what = 0; what <= 5; what++) {
                due("number " + what, x.lock(3, what), -1);
            }
            due("locks", x.count(2), 1);
            due("uses so far stay", x.count(5), 3);
            due("no key opens it", x.key(0, 6), 1);
            due("no person can open it", x.person(0, 1), 1);
        });
        s.holds("Undoable.", () -> {
            s.twins.undoable("take", Fixtures::busy, x -> x.take(3));
            s.twins.undoable("take the last lock", Fixtures::full, x -> x.take(5));
        });
        s.holds("`lock`: 0 to 5", () -> places(NotchedKeys::take));
        s.holds("Returns how many keys opened it, lost ones too", () -> {
            due("no keys", Fixtures.sixLocks().take(0), 0);
            due("twelve keys", Fixtures.full().take(5), 12);
            NotchedKeys x = Fixtures.twelveLost();
            x.ward(0, 0);
            due("twelve lost keys", x.take(0), 12);
            due("by the ward and by the guest ward", Fixtures.busy().take(0), 3);
            due("by the guest ward alone", Fixtures.busy().take(3), 1);
        });
        s.holds("Throws `IndexOutOfBoundsException` if there is no such place",
                () -> s.twins.refuses("place 6 behind a full row", Fixtures::full, x -> x.take(6), INDEX));
        s.holds("Throws `IllegalStateException` if there is no lock", () -> {
            s.twins.refuses("never one", Fixtures::busy, x -> x.take(5), STATE);
            s.twins.refuses("taken already", () -> {
                NotchedKeys x = Fixtures.busy();
                x.take(3);
                return x;
            }, x -> x.take(3), STATE);
        });
    }

    private static void turn() {
        s.section("Promise 11:");
        s.holds("Tries a key in a lock.", () -> {
            NotchedKeys x = Fixtures.busy();
            due("the uses of the key before", x.key(0, 3), 2);
            x.turn(0, 0);
            due("its uses", x.key(0, 3), 3);
            due("the uses of the lock", x.lock(0, 3), 3);
            due("no other lock", x.lock(3, 3), 1);
        });
        s.holds("Undoable.", () -> {
            s.twins.undoable("a use", Fixtures::busy, x -> x.turn(0, 0));
            s.twins.undoable("a failed try", Fixtures::busy, x -> x.turn(2, 3));
            s.twins.undoable("a use that wears", () -> {
                NotchedKeys x = Fixtures.busy();
                x.set(2, 2);
                return x;
            }, x -> x.turn(0, 0));
        });
        s.holds("`key`: the number of a key", () -> {
            s.twins.range("key", Fixtures::full, (x, key) -> x.turn(key, 0), 0, 11, INDEX);
            s.twins.refuses("no keys", Fixtures::sixLocks, x -> x.turn(0, 0), INDEX);
            s.twins.refuses("a key that is gone", () -> {
                NotchedKeys x = Fixtures.full();
                x.retire(11);
                return x;
            }, x -> x.turn(11, 0), INDEX);
        });
        s.holds("`lock`: 0 to 5", () -> places((x, lock) -> x.turn(11, lock)));
        s.holds("Returns 1 if it opens the lock, otherwise 0", () -> {
            NotchedKeys x = Fixtures.one();
            x.ward(0, c("0112"));
            due("alike", x.turn(0, 0), 1);
            x.ward(0, c("0111"));
            due("over", x.turn(0, 0), 1);
            x.ward(0, c("0122"));
            due("under", x.turn(0, 0), 0);
            x.ward(0, c("1000"));
            due("apart", x.turn(0, 0), 0);
            x.guest(0, c("0112"));
            due("the guest ward alike", x.turn(0, 0), 1);
            x.set(2, 1);
            x.ward(0, c("1112"));
            x.guest(0, -1);
            due("not before it is worn", x.turn(0, 0), 0);
            x.ward(0, c("0112"));
            due("the use that wears it", x.turn(0, 0), 1);
        });
        s.holds("Throws `IndexOutOfBoundsException` if there is no such key or place", () -> {
            s.twins.refuses("neither", Fixtures::busy, x -> x.turn(3, 6), INDEX);
            s.twins.refuses("no key, and no lock at the place", Fixtures::busy, x -> x.turn(3, 1), INDEX);
            s.twins.refuses("no place, and the key is lost", Fixtures::busy, x -> x.turn(1, 6), INDEX);
            s.twins.refuses("place -1, and the key is lost", Fixtures::busy, x -> x.turn(1, -1), INDEX);
        });
        s.holds("Throws `IllegalStateException` if the key is lost, or there is no lock", () -> {
            s.twins.refuses("lost", Fixtures::busy, x -> x.turn(1, 0), STATE);
            s.twins.refuses("no lock", Fixtures::busy, x -> x.turn(0, 1), STATE);
            s.twins.refuses("both", Fixtures::busy, x -> x.turn(1, 1), STATE);
            s.twins.refuses("the last of twelve, lost", Fixtures::twelveLost, x -> x.turn(11, 5), STATE);
        });
    }

    private static void set() {
        s.section("Promise 12:");
        s.holds("Changes a setting.", () -> {
            NotchedKeys x = new NotchedKeys();
            x.set(0, 1);
            x.set(1, 3);
            x.set(2, 5);
            x.set(3, 0);
            int[] values = {1, 3, 5, 0};
            for (int setting = 0; setting <= 3; setting++) {
                due("setting " + setting, x.setting(setting), values[setting]);
            }
            NotchedKeys y = Fixtures.twelve();
            y.set(0, 1);
            due("keys that are not sound stay", y.count(0), 12);
        });
        s.holds("Undoable.", () -> {
            int[] values = {1, 9, 0, 0};
            for (int i = 0; i <= 3; i++) {
                int setting = i;
                s.twins.undoable("set", Fixtures::busy, x -> x.set(setting, values[setting]));
                s.twins.undoable("set as it was", Fixtures::busy, x -> x.set(setting, x.setting(setting)));
            }
        });
        s.holds("`setting`: 0 to 3",
                () -> s.twins.range("setting", Fixtures::busy, (x, setting) -> x.set(setting, 1), 0, 3, INDEX));
        s.holds("`value`: the new value", () -> {
            value(0, 1, 2);
            value(1, 1, 9);
            value(2, 0, 9);
            value(3, 0, 1);
        });
        s.holds("Returns the previous value", () -> {
            NotchedKeys x = new NotchedKeys();
            due("2", x.set(2, 0), 4);
            due("2 again", x.set(2, 9), 0);
            due("2 once more", x.set(2, 9), 9);
        });
        s.holds("Throws `IndexOutOfBoundsException` if there is no such setting", () -> {
            s.twins.refuses("no setting and no value", Fixtures::busy, x -> x.set(4, -1), INDEX);
            s.twins.refuses("setting -1 and no value", Fixtures::busy, x -> x.set(-1, 10), INDEX);
        });
        s.holds("Throws `IllegalArgumentException` if value is out of range", () -> {
            s.twins.refuses("0 of the first", Fixtures::fresh, x -> x.set(0, 0), ARGUMENT);
            s.twins.refuses("2 of the last", Fixtures::fresh, x -> x.set(3, 2), ARGUMENT);
        });
    }

    private static void value(int setting, int least, int greatest) {
        Supplier<NotchedKeys> made = Fixtures::busy;
        s.twins.range("value of setting " + setting, made, (x, value) -> x.set(setting, value), least, greatest,
                ARGUMENT);
    }
}
