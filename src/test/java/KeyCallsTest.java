import java.util.function.Supplier;

/** The sentences of the promises 2 to 7, about calls that change keys, each with a test of its own. */
public final class KeyCallsTest {
    private static final Class<IllegalArgumentException> ARGUMENT = IllegalArgumentException.class;
    private static final Class<IllegalStateException> STATE = IllegalStateException.class;
    private static final Class<IndexOutOfBoundsException> INDEX = IndexOutOfBoundsException.class;

    private static final Sentences s = new Sentences();

    private KeyCallsTest() {
    }

    public static void main(String[] args) {
        cut();
        deepen();
        retire();
        give();
        lose();
        find();
        s.end();
    }

    private static void due(String what, long got, long want) {
        s.check.due(what, got, want);
    }

    private static int c(String depths) {
        return Fixtures.c(depths);
    }

    /** No key, some and as many as there can be: what is no number of a key is refused with each of them. */
    private static void keyNumbers(Supplier<NotchedKeys> twelve, Supplier<NotchedKeys> one, Twins.NumberCall call) {
        s.twins.range("key of twelve", twelve, call, 0, 11, INDEX);
        s.twins.range("the only key", one, call, 0, 0, INDEX);
        s.twins.refuses("key 0 of none", Fixtures::fresh, x -> call.run(x, 0), INDEX);
        s.twins.refuses("key -1 of none", Fixtures::fresh, x -> call.run(x, -1), INDEX);
        s.twins.refuses("key 3 of three", Fixtures::busy, x -> call.run(x, 3), INDEX);
        s.twins.refuses("key 11 of eleven", KeyCallsTest::eleven, x -> call.run(x, 11), INDEX);
    }

    /** The place of the key 11 holds what is left of one that is gone. */
    private static NotchedKeys eleven() {
        NotchedKeys x = Fixtures.twelve();
        x.retire(11);
        return x;
    }

    private static void cut() {
        s.section("Promise 2:");
        s.holds("Cuts a key.", () -> {
            NotchedKeys x = new NotchedKeys();
            x.set(2, 1);
            x.ward(0, 0);
            x.cut(c("0101"), 1);
            x.turn(0, 0);
            x.lose(0);
            x.retire(0);
            x.cut(c("0112"), 2);
            int[] looks = {c("0112"), 4, c("0112"), 0, 2, 0, 1, 0, 0, 0};
            for (int what = 0; what <= 9; what++) {
                due("number " + what + " of the new key", x.key(0, what), looks[what]);
            }
        });
        s.holds("Undoable.", () -> {
            s.twins.undoable("cut of the first key", Fixtures::fresh, x -> x.cut(0, 0));
            s.twins.undoable("cut of one more", Fixtures::busy, x -> x.cut(c("0202"), 3));
            s.twins.undoable("cut of the twelfth", KeyCallsTest::eleven, x -> x.cut(Fixtures.LEVEL_4[12], 3));
        });
        s.holds("`code`: 0 to 80", () -> {
            s.twins.range("code", Fixtures::fresh, (x, code) -> x.cut(code, 0), 0, 80, ARGUMENT);
            s.twins.refuses("code 81 with twelve keys", Fixtures::twelve, x -> x.cut(81, 0), ARGUMENT);
            s.twins.refuses("code NONE", Fixtures::busy, x -> x.cut(NotchedKeys.NONE, 0), ARGUMENT);
        });
        s.holds("`owner`: 0 to 3",
                () -> s.twins.range("owner", Fixtures::busy, (x, owner) -> x.cut(c("0202"), owner), 0, 3, ARGUMENT));
        s.holds("Returns the number of the key", () -> {
            NotchedKeys x = new NotchedKeys();
            due("the first", x.cut(Fixtures.LEVEL_4[0], 0), 0);
            due("the second", x.cut(Fixtures.LEVEL_4[1], 0), 1);
            x.retire(0);
            due("the second again", x.cut(Fixtures.LEVEL_4[0], 0), 1);
            due("the twelfth", eleven().cut(Fixtures.LEVEL_4[12], 0), 11);
        });
        s.holds("Throws `IllegalArgumentException` if code or owner is out of range", () -> {
            s.twins.refuses("both", Fixtures::busy, x -> x.cut(81, 4), ARGUMENT);
            s.twins.refuses("owner, of a code that is there", Fixtures::busy, x -> x.cut(c("1020"), 4), ARGUMENT);
            s.twins.refuses("owner, with twelve keys", Fixtures::twelve, x -> x.cut(c("1111"), -1), ARGUMENT);
            s.twins.refuses("owner, of an unsound code", KeyCallsTest::smallSteps, x -> x.cut(c("0022"), 4), ARGUMENT);
        });
        s.holds("Throws `IllegalStateException` if no key can be cut with this code", () -> {
            s.twins.refuses("1", KeyCallsTest::smallSteps, x -> x.cut(c("0022"), 0), STATE);
            s.twins.refuses("2", Fixtures::twelve, x -> x.cut(c("0202"), 0), STATE);
            s.twins.refuses("3", Fixtures::busy, x -> x.cut(c("0112"), 0), STATE);
            s.twins.refuses("4", Fixtures::busy, x -> x.cut(c("0111"), 0), STATE);
            s.twins.refuses("5", Fixtures::busy, x -> x.cut(c("0122"), 0), STATE);
        });
    }

    private static NotchedKeys smallSteps() {
        NotchedKeys x = Fixtures.busy();
        x.set(0, 1);
        return x;
    }

    private static void deepen() {
        s.section("Promise 3:");
        s.holds("Cuts a notch of a key, lost or not, 1 deeper.", () -> {
            NotchedKeys x = Fixtures.busy();
            due("not lost", x.key(0, 5), 0);
            due("deeper", x.deepen(0, 2), c("0122"));
            due("lost", x.key(1, 5), 1);
            due("deeper", x.deepen(1, 0), c("2020"));
            due("still lost", x.key(1, 5), 1);
            due("uses stay", x.key(0, 3), 2);
            due("not worn", x.key(0, 9), 0);
            due("its first code", x.key(1, 2), c("1020"));
        });
        s.holds("Undoable.", () -> {
            s.twins.undoable("deepen", Fixtures::busy, x -> x.deepen(0, 2));
            s.twins.undoable("deepen a lost key", Fixtures::busy, x -> x.deepen(1, 0));
            s.twins.undoable("deepen the only key", Fixtures::one, x -> x.deepen(0, 0));
        });
        s.holds("`key`: the number of a key", () -> keyNumbers(KeyCallsTest::allLostFree, Fixtures::one,
                (x, key) -> x.deepen(key, shallowNotch(x, key))));
        s.holds("`notch`: 0 to 3", () -> s.twins.range("notch", () -> Fixtures.keys("1011"),
                (x, notch) -> x.deepen(0, notch), 0, 3, INDEX));
        s.holds("Returns the code of the key then", () -> {
            NotchedKeys x = Fixtures.keys("0000");
            due("27", x.deepen(0, 0), 27);
            due("36", x.deepen(0, 1), 36);
            due("39", x.deepen(0, 2), 39);
            due("40", x.deepen(0, 3), 40);
            NotchedKeys y = Fixtures.keys("2221");
            due("80", y.deepen(0, 3), 80);
        });
        s.holds("Throws `IndexOutOfBoundsException` if there is no such key or notch", () -> {
            s.twins.refuses("neither", Fixtures::busy, x -> x.deepen(3, 4), INDEX);
            s.twins.refuses("notch 4 of the deepest key", () -> Fixtures.keys("2222"), x -> x.deepen(0, 4), INDEX);
            s.twins.refuses("notch -1 of the deepest key", () -> Fixtures.keys("2222"), x -> x.deepen(0, -1), INDEX);
        });
        s.holds("Throws `IllegalStateException` if this notch can not be cut deeper", () -> {
            s.twins.refuses("6", Fixtures::busy, x -> x.deepen(0, 3), STATE);
            s.twins.refuses("1", KeyCallsTest::smallSteps, x -> x.deepen(0, 1), STATE);
            s.twins.refuses("3", () -> Fixtures.keys("0111", "0112"), x -> x.deepen(0, 3), STATE);
            s.twins.refuses("4", () -> Fixtures.keys("0101", "0112"), x -> x.deepen(0, 2), STATE);
            s.twins.refuses("5", () -> Fixtures.keys("0111", "0002"), x -> x.deepen(0, 3), STATE);
        });
    }

    /** Lost keys do not count, so that each key can become deeper beside the others. */
    private static NotchedKeys allLostFree() {
        NotchedKeys x = Fixtures.twelveLost();
        x.set(3, 0);
        return x;
    }

    private static int shallowNotch(NotchedKeys x, int key) {
        if (key < 0 || key >= x.count(0)) {
            return 0;
        }
        String depths = Fixtures.depths(x.key(key, 0));
        return Math.max(depths.indexOf('0'), depths.indexOf('1'));
    }

    private static void retire() {
        s.section("Promise 4:");
        s.holds("Throws a key away, lost or not.", () -> {
            NotchedKeys x = Fixtures.busy();
            due("lost", x.key(1, 5), 1);
            x.retire(1);
            due("keys", x.count(0), 2);
            due("lost keys", x.count(1), 0);
            due("thrown away", x.count(8), 1);
            due("not lost", x.key(0, 5), 0);
            x.retire(0);
            due("thrown away", x.count(8), 2);
            due("the last one is left", x.key(0, 2), c("2001"));
            due("with its wear", x.key(0, 9), 1);
        });
        s.holds("Undoable.", () -> {
            s.twins.undoable("retire a lost key", Fixtures::busy, x -> x.retire(1));
            s.twins.undoable("retire the first of twelve", Fixtures::twelve, x -> x.retire(0));
            s.twins.undoable("retire the last of twelve", Fixtures::twelve, x -> x.retire(11));
            s.twins.undoable("retire the only key", Fixtures::one, x -> x.retire(0));
        });
        s.holds("`key`: the number of a key", () -> keyNumbers(Fixtures::twelve, Fixtures::one, NotchedKeys::retire));
        s.holds("Returns how many keys there are then", () -> {
            NotchedKeys x = Fixtures.twelve();
            for (int left = 11; left >= 0; left--) {
                due("left", x.retire(left / 2), left);
            }
        });
        s.holds("Throws `IndexOutOfBoundsException` if there is no such key", () -> {
            NotchedKeys x = Fixtures.one();
            x.retire(0);
            s.check.due("the key is gone", Check.answer(() -> x.retire(0)), "IndexOutOfBoundsException");
        });
    }

    private static void give() {
        s.section("Promise 5:");
        s.holds("Gives a key, lost or not, another owner.", () -> {
            NotchedKeys x = Fixtures.busy();
            x.give(1, 2);
            due("a lost key", x.key(1, 4), 2);
            due("still lost", x.key(1, 5), 1);
            x.give(0, 1);
            due("a key that is not lost", x.key(0, 4), 1);
            due("the uses of the owner before stay", x.person(0, 2), 2);
            due("the new owner has none of them", x.person(1, 2), 1);
            due("the key's uses stay", x.key(0, 3), 2);
        });
        s.holds("Undoable.", () -> {
            s.twins.undoable("give", Fixtures::busy, x -> x.give(0, 2));
            s.twins.undoable("give to the owner that it has", Fixtures::busy, x -> x.give(0, 0));
        });
        s.holds("`key`: the number of a key",
                () -> keyNumbers(Fixtures::twelve, Fixtures::one, (x, key) -> x.give(key, 3)));
        s.holds("`owner`: 0 to 3",
                () -> s.twins.range("owner", Fixtures::busy, (x, owner) -> x.give(0, owner), 0, 3, ARGUMENT));
        s.holds("Returns the owner before", () -> {
            NotchedKeys x = Fixtures.one();
            due("0 to 3", x.give(0, 3), 0);
            due("3 to 3", x.give(0, 3), 3);
            due("3 to 0", x.give(0, 0), 3);
        });
        s.holds("Throws `IndexOutOfBoundsException` if there is no such key",
                () -> s.twins.refuses("no key and no owner", Fixtures::busy, x -> x.give(3, 4), INDEX));
        s.holds("Throws `IllegalArgumentException` if owner is out of range",
                () -> s.twins.refuses("of a lost key", Fixtures::busy, x -> x.give(1, 4), ARGUMENT));
    }

    private static void lose() {
        s.section("Promise 6:");
        s.holds("A key is lost.", () -> {
            NotchedKeys x = Fixtures.twelve();
            x.lose(11);
            for (int k = 0; k < 12; k++) {
                due("lost", x.key(k, 5), k == 11 ? 1 : 0);
            }
        });
        s.holds("Undoable.", () -> s.twins.undoable("lose", Fixtures::busy, x -> x.lose(0)));
        s.holds("`key`: the number of a key", () -> keyNumbers(Fixtures::twelve, Fixtures::one, NotchedKeys::lose));
        s.holds("Returns how many locks it opens", () -> {
            due("no lock", Fixtures.one().lose(0), 0);
            due("six locks", Fixtures.full().lose(11), 6);
            NotchedKeys x = Fixtures.full();
            x.ward(5, 80);
            due("five of six", x.lose(0), 5);
        });
        s.holds("Throws `IndexOutOfBoundsException` if there is no such key",
                () -> s.twins.refuses("key 12 of lost ones", Fixtures::twelveLost, x -> x.lose(12), INDEX));
        s.holds("Throws `IllegalStateException` if it is lost already", () -> {
            s.twins.refuses("lost", Fixtures::busy, x -> x.lose(1), STATE);
            s.twins.refuses("the last of twelve", Fixtures::twelveLost, x -> x.lose(11), STATE);
        });
    }

    private static void find() {
        s.section("Promise 7:");
        s.holds("A key that was lost is found.", () -> {
            NotchedKeys x = Fixtures.twelveLost();
            x.find(11);
            for (int k = 0; k < 12; k++) {
                due("lost", x.key(k, 5), k == 11 ? 0 : 1);
            }
        });
        s.holds("Undoable.", () -> s.twins.undoable("find", Fixtures::busy, x -> x.find(1)));
        s.holds("`key`: the number of a key", () -> keyNumbers(Fixtures::twelveLost, () -> {
            NotchedKeys x = Fixtures.one();
            x.lose(0);
            return x;
        }, NotchedKeys::find));
        s.holds("Returns how many locks it opens", () -> {
            NotchedKeys x = Fixtures.full();
            x.lose(11);
            due("six locks", x.find(11), 6);
            NotchedKeys y = Fixtures.twelveLost();
            due("no lock", y.find(0), 0);
            y.ward(5, 0);
            due("one lock", y.find(1), 1);
        });
        s.holds("Throws `IndexOutOfBoundsException` if there is no such key",
                () -> s.twins.refuses("key 12", Fixtures::twelve, x -> x.find(12), INDEX));
        s.holds("Throws `IllegalStateException` if it is not lost", () -> {
            s.twins.refuses("never lost", Fixtures::one, x -> x.find(0), STATE);
            s.twins.refuses("found already", () -> {
                NotchedKeys x = Fixtures.busy();
                x.find(1);
                return x;
            }, x -> x.find(1), STATE);
        });
    }
}
