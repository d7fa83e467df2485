/** The sentences of the promises 20 to 27, about looks, each with a test of its own. */
public final class LooksTest {
    private static final Class<IllegalArgumentException> ARGUMENT = IllegalArgumentException.class;
    private static final Class<IndexOutOfBoundsException> INDEX = IndexOutOfBoundsException.class;

    private static final Sentences s = new Sentences();

    private LooksTest() {
    }

    public static void main(String[] args) {
        key();
        keySets();
        lock();
        lockSets();
        person();
        code();
        level();
        count();
        countSoFar();
        setting();
        why();
        s.end();
    }

    private static void due(String what, long got, long want) {
        s.check.due(what, got, want);
    }

    private static int c(String depths) {
        return Fixtures.c(depths);
    }

    private static void keyNumbers(Twins.NumberCall call) {
        s.twins.range("key of twelve", Fixtures::full, call, 0, 11, INDEX);
        s.twins.range("the only key", Fixtures::one, call, 0, 0, INDEX);
        s.twins.refuses("key 0 of none", Fixtures::fresh, x -> call.run(x, 0), INDEX);
        s.twins.refuses("key 3 of three", Fixtures::busy, x -> call.run(x, 3), INDEX);
        s.twins.refuses("a key that is gone", LooksTest::eleven, x -> call.run(x, 11), INDEX);
    }

    private static NotchedKeys eleven() {
        NotchedKeys x = Fixtures.full();
        x.retire(0);
        return x;
    }

    private static void what(Twins.NumberCall call, int greatest) {
        s.twins.range("what, with as much as there can be", Fixtures::full, call, 0, greatest, ARGUMENT);
        s.twins.range("what, with some of everything", Fixtures::busy, call, 0, greatest, ARGUMENT);
    }

    // ---- key

    private static void key() {
        s.section("Promise 20:");
        s.holds("Tells something of a key.", () -> s.twins.changesNothing("key", Fixtures::busy, x -> x.key(0, 6)));
        s.isTestedElsewhere("Returns the number.");
        s.holds("`key`: the number of a key", () -> keyNumbers((x, key) -> x.key(key, 0)));
        s.holds("`what`: 0: its code", () -> {
            due("0", Fixtures.keys("0000").key(0, 0), 0);
            due("80", Fixtures.keys("2222").key(0, 0), 80);
            due("of the last one", Fixtures.full().key(11, 0), Fixtures.LEVEL_4[11]);
        });
        s.holds("1: its level", () -> {
            due("0", Fixtures.keys("0000").key(0, 1), 0);
            due("8", Fixtures.keys("2222").key(0, 1), 8);
            due("of the last one", Fixtures.full().key(11, 1), 4);
        });
        s.holds("2: the code with which it was cut (it stays when the key becomes deeper)", () -> {
            NotchedKeys x = Fixtures.keys("0000");
            x.ward(0, 0);
            due("when cut", x.key(0, 2), 0);
            x.deepen(0, 0);
            due("when a notch is cut deeper", x.key(0, 2), 0);
            x.set(2, 1);
            x.turn(0, 0);
            due("when worn", x.key(0, 2), 0);
            due("its code", x.key(0, 0), 36);
        });
        s.holds("3: its uses", () -> {
            NotchedKeys x = Fixtures.full();
            due("none", x.key(11, 3), 0);
            x.turn(11, 0);
            x.turn(11, 5);
            x.ward(5, 80);
            x.turn(11, 5);
            due("of all locks, without failed tries", x.key(11, 3), 2);
            x.take(0);
            x.give(11, 0);
            due("they stay when the lock goes, and with another owner", x.key(11, 3), 2);
            due("of no other key", x.key(10, 3), 0);
        });
        s.holds("4: its owner", () -> {
            NotchedKeys x = Fixtures.full();
            due("0", x.key(8, 4), 0);
            due("3", x.key(11, 4), 3);
        });
        s.holds("5: 1 if it is lost, otherwise 0", () -> {
            NotchedKeys x = Fixtures.busy();
            due("not lost", x.key(0, 5), 0);
            due("lost", x.key(1, 5), 1);
        });
        s.holds("9: how often it was worn", () -> {
            NotchedKeys x = Fixtures.keys("0000");
            x.ward(0, 0);
            x.set(2, 1);
            for (int use = 0; use <= 9; use++) {
                due("behind " + use, x.key(0, 9), Math.min(use, 8));
                x.turn(0, 0);
            }
        });
        s.holds("Throws `IndexOutOfBoundsException` if there is no such key", () -> {
            s.twins.refuses("no key, what 10", Fixtures::busy, x -> x.key(3, 10), INDEX);
            s.twins.refuses("key 0 of none, what -1", Fixtures::fresh, x -> x.key(0, -1), INDEX);
        });
        s.holds("Throws `IllegalArgumentException` if what is not 0 to 9", () -> what((x, what) -> x.key(0, what), 9));
    }

    private static void keySets() {
        s.holds("6: the locks that it opens, as a mask", () -> {
            due("none", Fixtures.one().key(0, 6), 0);
            due("all", Fixtures.full().key(11, 6), 63);
            NotchedKeys x = Fixtures.full();
            x.ward(0, 80);
            x.take(3);
            due("but the first and one that is gone", x.key(0, 6), 63 - 1 - 8);
            x.guest(0, 0);
            due("by the guest ward", x.key(0, 6), 63 - 8);
            x.lose(0);
            due("of a lost key", x.key(0, 6), 63 - 8);
        });
        s.holds("7: the keys whose codes lie over its code, as a mask", () -> {
            NotchedKeys x = crossedTwelve();
            due("all the others lie over the first", x.key(0, 7), (1 << 12) - 2);
            due("none over the last", x.key(11, 7), 0);
            x.lose(11);
            due("lost ones too", x.key(0, 7), (1 << 12) - 2);
            due("none that is alike", Fixtures.keys("0112", "0112").key(0, 7), 0);
            due("the first one", Fixtures.keys("0112", "0111").key(1, 7), 1);
            NotchedKeys y = Fixtures.keys("0111", "0112");
            y.retire(1);
            due("none that is gone", y.key(0, 7), 0);
        });
        s.holds("8: the keys whose codes lie under it, as a mask", () -> {
            NotchedKeys x = crossedTwelve();
            due("all the others lie under the last", x.key(11, 8), (1 << 11) - 1);
            due("none under the first", x.key(0, 8), 0);
            x.lose(0);
            due("lost ones too", x.key(11, 8), (1 << 11) - 1);
            due("none that is alike", Fixtures.keys("0112", "0112").key(1, 8), 0);
            NotchedKeys y = Fixtures.keys("0112", "0111");
            y.retire(1);
            due("none that is gone", y.key(0, 8), 0);
        });
    }

    /** Twelve keys of which the first lies under all, and the last over all. */
    private static NotchedKeys crossedTwelve() {
        return Fixtures.keys("0000", "0001", "0010", "0100", "1000", "0011", "0110", "1100", "1001", "1010", "0101",
                "2222");
    }

    // ---- lock

    private static void lock() {
        s.section("Promise 21:");
        s.holds("Tells something of a lock.", () -> s.twins.changesNothing("lock", Fixtures::busy, x -> x.lock(3, 5)));
        s.holds("`lock`: 0 to 5", () -> {
            s.twins.range("lock", Fixtures::full, (x, lock) -> x.lock(lock, 0), 0, 5, INDEX);
            s.twins.range("a place without a lock", Fixtures::fresh, (x, lock) -> x.lock(lock, 0), 0, 5, INDEX);
        });
        s.holds("`what`: 0: its ward", () -> {
            NotchedKeys x = Fixtures.sixLocks();
            due("0", x.lock(5, 0), 0);
            x.ward(5, 80);
            due("80", x.lock(5, 0), 80);
        });
        s.holds("1: its guest ward", () -> {
            NotchedKeys x = Fixtures.sixLocks();
            due("none", x.lock(5, 1), -1);
            x.guest(5, 0);
            due("0", x.lock(5, 1), 0);
            x.guest(5, 80);
            due("80", x.lock(5, 1), 80);
        });
        s.holds("3: its uses", () -> {
            NotchedKeys x = Fixtures.full();
            due("none", x.lock(5, 3), 0);
            x.turn(0, 5);
            x.turn(11, 5);
            x.retire(11);
            due("of all keys, also of one that is gone", x.lock(5, 3), 2);
            due("of no other lock", x.lock(4, 3), 0);
        });
        s.holds("4: its failed tries", () -> {
            NotchedKeys x = Fixtures.full();
            x.ward(5, 80);
            due("none", x.lock(5, 4), 0);
            x.turn(0, 5);
            x.turn(11, 5);
            due("two", x.lock(5, 4), 2);
            due("no uses", x.lock(5, 3), 0);
            due("of no other lock", x.lock(4, 4), 0);
        });
        s.holds("NONE if there is no lock, or, for 1, if it has no guest ward", () -> {
            NotchedKeys x = new NotchedKeys();
            for (int what = 0; what <= 5; what++) {
                due("no lock", x.lock(5, what), NotchedKeys.NONE);
            }
            x.ward(5, 0);
            for (int what = 0; what <= 5; what++) {
                due("a lock, number " + what, x.lock(5, what), what == 1 ? NotchedKeys.NONE : 0);
            }
        });
        s.holds("Throws `IndexOutOfBoundsException` if there is no such place", () -> {
            s.twins.refuses("no place, what 6", Fixtures::full, x -> x.lock(6, 6), INDEX);
            s.twins.refuses("no place, what -1", Fixtures::fresh, x -> x.lock(-1, -1), INDEX);
        });
        s.holds("Throws `IllegalArgumentException` if what is not 0 to 5", () -> {
            what((x, what) -> x.lock(0, what), 5);
            what((x, what) -> x.lock(3, what), 5);
            s.twins.range("what, without a lock", Fixtures::fresh, (x, what) -> x.lock(0, what), 0, 5, ARGUMENT);
        });
    }

    private static void lockSets() {
        s.holds("2: the keys that open it, lost ones too, as a mask", () -> {
            NotchedKeys x = Fixtures.full();
            due("all", x.lock(5, 2), (1 << 12) - 1);
            x.lose(11);
            x.lose(0);
            due("lost ones too", x.lock(5, 2), (1 << 12) - 1);
            x.ward(5, 80);
            due("none", x.lock(5, 2), 0);
            x.guest(5, Fixtures.LEVEL_4[0]);
            due("the first, by the guest ward", x.lock(5, 2), 1);
            due("no keys", Fixtures.sixLocks().lock(5, 2), 0);
            NotchedKeys y = Fixtures.full();
            y.retire(11);
            due("none that is gone", y.lock(5, 2), (1 << 11) - 1);
        });
        s.holds("5: the owners of keys that open it and are not lost, as a mask, and the bit 4, if a lost key", () -> {
            NotchedKeys x = Fixtures.full();
            due("all owners, no lost key", x.lock(5, 5), 15);
            x.lose(0);
            due("a lost key, its owner has another one", x.lock(5, 5), 31);
            x.lose(4);
            x.lose(8);
            due("the owner 0 has none left", x.lock(5, 5), 16 + 14);
            due("only lost ones", lostWithLock().lock(5, 5), 16);
            NotchedKeys z = Fixtures.full();
            z.lose(11);
            z.retire(11);
            due("none that is gone", z.lock(5, 5), 15);
            due("no keys", Fixtures.sixLocks().lock(5, 5), 0);
            NotchedKeys y = Fixtures.one();
            y.ward(5, 80);
            due("no key opens it", y.lock(5, 5), 0);
            y.lose(0);
            due("nor a lost one", y.lock(5, 5), 0);
        });
    }

    private static NotchedKeys lostWithLock() {
        NotchedKeys x = Fixtures.twelveLost();
        x.ward(5, 0);
        return x;
    }

    // ---- person

    private static void person() {
        s.section("Promise 22:");
        s.holds("Tells something of a person.",
                () -> s.twins.changesNothing("person", Fixtures::busy, x -> x.person(0, 1)));
        s.isTestedElsewhere("Returns the number.");
        s.holds("`person`: 0 to 3", () -> {
            s.twins.range("person", Fixtures::full, (x, person) -> x.person(person, 1), 0, 3, INDEX);
            s.twins.range("person without keys", Fixtures::fresh, (x, person) -> x.person(person, 0), 0, 3, INDEX);
        });
        s.holds("`what`: 0: the keys that it owns, lost ones too, as a mask", () -> {
            due("none", Fixtures.one().person(1, 0), 0);
            due("one", Fixtures.one().person(0, 0), 1);
            due("lost ones", Fixtures.twelveLost().person(3, 0), (1 << 3) + (1 << 7) + (1 << 11));
            NotchedKeys x = Fixtures.twelve();
            for (int k = 0; k < 12; k++) {
                x.give(k, 2);
            }
            due("all", x.person(2, 0), (1 << 12) - 1);
            due("none any more", x.person(3, 0), 0);
            x.retire(11);
            due("none that is gone", x.person(2, 0), (1 << 11) - 1);
        });
        s.holds("1: the locks that it can open, with its keys that are not lost, as a mask", () -> {
            due("all", Fixtures.full().person(3, 1), 63);
            due("none with lost keys", lostWithLock().person(3, 1), 0);
            due("none without keys", Fixtures.sixLocks().person(3, 1), 0);
            NotchedKeys x = Fixtures.full();
            x.lose(3);
            x.lose(7);
            due("with the last one that is not lost", x.person(3, 1), 63);
            x.ward(0, Fixtures.LEVEL_4[3]);
            due("not what only a lost one opens", x.person(3, 1), 62);
            x.give(11, 0);
            due("not with a key of another one", x.person(3, 1), 0);
            x.give(11, 3);
            x.retire(11);
            due("not with one that is gone", x.person(3, 1), 0);
        });
        s.holds("2: its uses so far, of whatever key", () -> {
            NotchedKeys x = Fixtures.full();
            due("none", x.person(3, 2), 0);
            x.turn(3, 0);
            x.turn(11, 5);
            due("of two keys", x.person(3, 2), 2);
            x.give(11, 2);
            x.retire(3);
            due("of keys that it has no more", x.person(3, 2), 2);
            due("the new owner of one has none of them", x.person(2, 2), 0);
            x.ward(0, 80);
            x.turn(2, 0);
            due("a failed try is none", x.person(2, 2), 0);
        });
        s.holds("Throws `IndexOutOfBoundsException` if there is no such person",
                () -> s.twins.refuses("no person, what 3", Fixtures::full, x -> x.person(4, 3), INDEX));
        s.holds("Throws `IllegalArgumentException` if what is not 0 to 2", () -> {
            what((x, what) -> x.person(0, what), 2);
            s.twins.range("what", Fixtures::fresh, (x, what) -> x.person(3, what), 0, 2, ARGUMENT);
        });
    }

    // ---- code

    private static void code() {
        s.section("Promise 23:");
        s.holds("Tells something of a code.", () -> s.twins.changesNothing("code", Fixtures::busy, x -> x.code(0, 3)));
        s.isTestedElsewhere("Returns the number.");
        s.holds("`code`: 0 to 80", () -> {
            s.twins.range("code", Fixtures::fresh, (x, code) -> x.code(code, 5), 0, 80, ARGUMENT);
            s.twins.range("code", Fixtures::full, (x, code) -> x.code(code, 2), 0, 80, ARGUMENT);
        });
        s.holds("`what`: 0: its level", () -> {
            due("0", new NotchedKeys().code(0, 0), 0);
            due("8", new NotchedKeys().code(80, 0), 8);
        });
        s.holds("1: 1 if it is sound, otherwise 0", () -> {
            NotchedKeys x = Fixtures.one();
            due("by 2", x.code(c("2002"), 1), 1);
            x.set(0, 1);
            due("by 2, with setting 0 as 1", x.code(c("2112"), 1), 1);
            due("no more", x.code(c("2012"), 1), 0);
            due("also if it is not free", x.code(c("0112"), 1), 1);
        });
        s.holds("2: why no key can be cut with it, 0 if one can", () -> {
            NotchedKeys x = Fixtures.busy();
            due("0", x.code(c("0202"), 2), 0);
            due("3", x.code(c("0112"), 2), 3);
            due("4", x.code(0, 2), 4);
            due("5", x.code(80, 2), 5);
            x.set(0, 1);
            due("1", x.code(c("0202"), 2), 1);
            due("2", Fixtures.twelve().code(0, 2), 2);
        });
        s.holds("3: the sound codes that lie over it, how many", () -> {
            NotchedKeys x = new NotchedKeys();
            due("over 0", x.code(0, 3), 80);
            due("over 80", x.code(80, 3), 0);
            due("over 2221", x.code(79, 3), 1);
            x.set(0, 1);
            due("over 0, of 41 sound ones", x.code(0, 3), 40);
            due("over 2221, which is sound", x.code(79, 3), 1);
            due("over 2220, which is not", x.code(78, 3), 2);
            x.cut(80, 0);
            due("also those that are not free", x.code(79, 3), 1);
        });
        s.holds("4: the sound codes that lie under it, how many", () -> {
            NotchedKeys x = new NotchedKeys();
            due("under 0", x.code(0, 4), 0);
            due("under 80", x.code(80, 4), 80);
            due("under 1", x.code(1, 4), 1);
            x.set(0, 1);
            due("under 80, of 41 sound ones", x.code(80, 4), 40);
            due("under 0002, which is not sound", x.code(2, 4), 2);
            x.cut(0, 0);
            due("also those that are not free", x.code(1, 4), 1);
        });
        s.holds("5: 1 if it is free, otherwise 0", () -> {
            due("all are at first", new NotchedKeys().code(80, 5), 1);
            due("with twelve keys", Fixtures.twelve().code(Fixtures.LEVEL_4[18], 5), 1);
            due("not one that is there", Fixtures.twelve().code(Fixtures.LEVEL_4[11], 5), 0);
        });
        s.holds("Throws `IllegalArgumentException` if code is out of range, or what is not 0 to 5", () -> {
            what((x, what) -> x.code(80, what), 5);
            s.twins.refuses("both", Fixtures::fresh, x -> x.code(81, 6), ARGUMENT);
            s.twins.refuses("both", Fixtures::fresh, x -> x.code(-1, -1), ARGUMENT);
        });
    }

    // ---- level

    private static void level() {
        s.section("Promise 24:");
        s.holds("Tells something of a level.",
                () -> s.twins.changesNothing("level", Fixtures::busy, x -> x.level(4, 3)));
        s.isTestedElsewhere("Returns the number.");
        s.holds("`level`: 0 to 8", () -> {
            s.twins.range("level", Fixtures::fresh, (x, level) -> x.level(level, 0), 0, 8, INDEX);
            s.twins.range("level", Fixtures::full, (x, level) -> x.level(level, 3), 0, 8, INDEX);
        });
        s.holds("`what`: 0: its sound codes, how many", () -> {
            int[] by2 = {1, 4, 10, 16, 19, 16, 10, 4, 1};
            int[] by1 = {1, 4, 6, 6, 7, 6, 6, 4, 1};
            NotchedKeys x = Fixtures.twelve();
            for (int level = 0; level <= 8; level++) {
                due("level " + level, x.level(level, 0), by2[level]);
            }
            x.set(0, 1);
            for (int level = 0; level <= 8; level++) {
                due("level " + level + " by 1", x.level(level, 0), by1[level]);
            }
        });
        s.holds("1: its free codes, how many", () -> {
            NotchedKeys x = new NotchedKeys();
            due("all", x.level(4, 1), 19);
            due("one of level 0", x.level(0, 1), 1);
            due("one of level 8", x.level(8, 1), 1);
            for (int i = 0; i < 12; i++) {
                x.cut(Fixtures.LEVEL_4[i], 0);
                due("all but " + (i + 1), x.level(4, 1), 18 - i);
            }
            due("none of level 0", x.level(0, 1), 0);
            due("none of level 8", x.level(8, 1), 0);
        });
        s.holds("2: keys with codes of it", () -> {
            due("none", new NotchedKeys().level(4, 2), 0);
            due("twelve", Fixtures.twelve().level(4, 2), 12);
            due("lost ones too", Fixtures.twelveLost().level(4, 2), 12);
            NotchedKeys y = Fixtures.twelveLost();
            y.retire(11);
            due("none that is gone", y.level(4, 2), 11);
            due("none of the level below", Fixtures.twelve().level(3, 2), 0);
            due("none of the level above", Fixtures.twelve().level(5, 2), 0);
            NotchedKeys x = Fixtures.keys("0000", "2222");
            due("0", x.level(0, 2), 1);
            due("8", x.level(8, 2), 1);
        });
        s.holds("3: the least free code of it, NONE without one", () -> {
            NotchedKeys x = new NotchedKeys();
            due("0", x.level(0, 3), 0);
            due("80", x.level(8, 3), 80);
            for (int i = 0; i < 12; i++) {
                due("the least of level 4", x.level(4, 3), Fixtures.LEVEL_4[i]);
                x.cut(Fixtures.LEVEL_4[i], 0);
            }
            due("the least behind twelve keys", x.level(4, 3), Fixtures.LEVEL_4[12]);
            due("none", x.level(0, 3), NotchedKeys.NONE);
            due("none", x.level(8, 3), NotchedKeys.NONE);
        });
        s.holds("Throws `IndexOutOfBoundsException` if there is no such level",
                () -> s.twins.refuses("no level, what 4", Fixtures::full, x -> x.level(9, 4), INDEX));
        s.holds("Throws `IllegalArgumentException` if what is not 0 to 3", () -> {
            what((x, what) -> x.level(0, what), 3);
            what((x, what) -> x.level(8, what), 3);
        });
    }

    // ---- count

    private static void count() {
        s.section("Promise 25:");
        s.holds("Returns a number.", () -> s.twins.changesNothing("count", Fixtures::busy, x -> x.count(10)));
        s.isTestedElsewhere("Returns the number.");
        s.holds("`what`: 0: keys", () -> {
            due("none", new NotchedKeys().count(0), 0);
            due("twelve", Fixtures.twelve().count(0), 12);
            due("lost ones too", Fixtures.twelveLost().count(0), 12);
        });
        s.holds("1: keys that are lost", () -> {
            due("none", Fixtures.twelve().count(1), 0);
            due("all", Fixtures.twelveLost().count(1), 12);
            NotchedKeys x = Fixtures.twelveLost();
            x.retire(0);
            x.find(10);
            due("of those that are there", x.count(1), 10);
            x.retire(0);
            x.retire(9);
            due("the last one was found", x.count(1), 9);
            x.retire(8);
            due("none that is gone", x.count(1), 8);
        });
        s.holds("2: locks", () -> {
            due("none", new NotchedKeys().count(2), 0);
            due("all", Fixtures.sixLocks().count(2), 6);
            NotchedKeys x = Fixtures.sixLocks();
            x.take(0);
            x.take(5);
            due("four", x.count(2), 4);
        });
        s.holds("3: pairs of keys that are crossed", () -> {
            due("no key", new NotchedKeys().count(3), 0);
            due("one key", Fixtures.one().count(3), 0);
            due("none of twelve", Fixtures.twelve().count(3), 0);
            String[] alike = {
                "1111", "1111", "1111", "1111", "1111", "1111", "1111", "1111", "1111", "1111", "1111", "1111"
            };
            due("all of twelve", Fixtures.keys(alike).count(3), 66);
            NotchedKeys x = Fixtures.keys("0111", "0112", "2000");
            x.lose(0);
            x.set(3, 0);
            due("lost ones too", x.count(3), 1);
        });
        s.holds("9: sound codes", () -> {
            NotchedKeys x = Fixtures.twelve();
            due("by 2", x.count(9), 81);
            x.set(0, 1);
            due("by 1", x.count(9), 41);
        });
        s.holds("10: free codes", () -> {
            due("all", new NotchedKeys().count(10), 81);
            due("none", Fixtures.keys("0000").count(10), 0);
            due("none", Fixtures.keys("2222").count(10), 0);
            // neither the 16 under or like 1111, nor the 16 over or like it
            due("some", Fixtures.keys("1111").count(10), 81 - 16 - 16 + 1);
        });
        s.holds("11: saved states", () -> {
            NotchedKeys x = new NotchedKeys();
            due("none", x.count(11), 0);
            for (int calls = 1; calls <= 8; calls++) {
                x.set(1, calls);
                due("behind " + calls, x.count(11), Math.min(6, calls));
            }
            x.undo();
            due("less one", x.count(11), 5);
        });
        s.holds("Throws `IllegalArgumentException` if what is not 0 to 11", () -> {
            what(NotchedKeys::count, 11);
            s.twins.range("what", Fixtures::fresh, NotchedKeys::count, 0, 11, ARGUMENT);
        });
    }

    private static void countSoFar() {
        s.holds("4: pence so far", () -> {
            due("none", new NotchedKeys().count(4), 0);
            due("twelve keys", Fixtures.twelve().count(4), 12 * 4 * 2);
            NotchedKeys x = Fixtures.one();
            x.retire(0);
            due("also for keys that are gone", x.count(4), 8);
            x.set(1, 9);
            due("what was paid stays", x.count(4), 8);
        });
        s.holds("5: uses so far", () -> {
            NotchedKeys x = Fixtures.full();
            x.turn(0, 0);
            x.turn(11, 5);
            x.take(5);
            x.retire(0);
            due("also of keys and locks that are gone", x.count(5), 2);
        });
        s.holds("6: failed tries so far", () -> {
            NotchedKeys x = Fixtures.full();
            x.ward(5, 80);
            x.turn(0, 5);
            x.turn(11, 5);
            x.take(5);
            x.retire(0);
            due("also of keys and locks that are gone", x.count(6), 2);
            due("no uses", x.count(5), 0);
        });
        s.holds("7: how often keys were worn so far", () -> {
            NotchedKeys x = Fixtures.full();
            x.set(2, 1);
            x.turn(0, 0);
            x.turn(11, 5);
            x.retire(0);
            due("also keys that are gone", x.count(7), 2);
        });
        s.holds("8: keys that were thrown away so far", () -> {
            NotchedKeys x = Fixtures.twelve();
            for (int gone = 0; gone < 12; gone++) {
                due("gone", x.count(8), gone);
                x.retire(0);
            }
            due("all", x.count(8), 12);
            x.cut(0, 0);
            due("a new one changes nothing", x.count(8), 12);
        });
    }

    // ---- setting, why

    private static void setting() {
        s.section("Promise 26:");
        s.holds("Returns a setting.", () -> s.twins.changesNothing("setting", Fixtures::busy, x -> x.setting(1)));
        s.holds("`setting`: 0 to 3", () -> s.twins.range("setting", Fixtures::busy, NotchedKeys::setting, 0, 3, INDEX));
        s.holds("Returns its value", () -> {
            NotchedKeys x = Fixtures.fresh();
            int[][] values = {{1, 2}, {1, 9}, {0, 9}, {0, 1}};
            for (int setting = 0; setting <= 3; setting++) {
                for (int value : values[setting]) {
                    x.set(setting, value);
                    due("setting " + setting, x.setting(setting), value);
                }
            }
        });
        s.holds("Throws `IndexOutOfBoundsException` if there is no such setting", () -> {
            s.twins.refuses("setting 4", Fixtures::fresh, x -> x.setting(4), INDEX);
            s.twins.refuses("setting -1", Fixtures::fresh, x -> x.setting(-1), INDEX);
        });
    }

    private static void why() {
        s.section("Promise 27:");
        s.holds("Tells why a notch can not be cut deeper.",
                () -> s.twins.changesNothing("why", Fixtures::busy, x -> x.why(0, 0)));
        s.holds("`key`: the number of a key", () -> keyNumbers((x, key) -> x.why(key, 0)));
        s.holds("`notch`: 0 to 3", () -> s.twins.range("notch", Fixtures::full, (x, n) -> x.why(11, n), 0, 3, INDEX));
        s.holds("Returns 0 if it can be, otherwise 1, 3, 4, 5 or 6", () -> {
            due("0", Fixtures.one().why(0, 0), 0);
            NotchedKeys x = Fixtures.one();
            x.set(0, 1);
            due("1", x.why(0, 1), 1);
            due("3", Fixtures.keys("0111", "0112").why(0, 3), 3);
            due("4", Fixtures.keys("0101", "0112").why(0, 2), 4);
            due("5", Fixtures.keys("0111", "0002").why(0, 3), 5);
            due("6", Fixtures.one().why(0, 3), 6);
            NotchedKeys y = Fixtures.twelveLost();
            y.set(3, 0);
            due("never 2", y.why(11, 3), 0);
        });
        s.holds("Throws `IndexOutOfBoundsException` if there is no such key or notch", () -> {
            s.twins.refuses("neither", Fixtures::busy, x -> x.why(3, 4), INDEX);
            s.twins.refuses("notch 4 of the deepest key", () -> Fixtures.keys("2222"), x -> x.why(0, 4), INDEX);
        });
    }
}
