/** The sentences of the promises 29 to 36, about what would be, each with a test of its own. */
public final class WouldBeTest {
    private static final Class<IllegalArgumentException> ARGUMENT = IllegalArgumentException.class;
    private static final Class<IndexOutOfBoundsException> INDEX = IndexOutOfBoundsException.class;

    private static final Sentences s = new Sentences();

    private WouldBeTest() {
    }

    public static void main(String[] args) {
        most();
        pick();
        opener();
        worn();
        crossedIn();
        freeShare();
        meanLevel();
        digest();
        digestValues();
        s.end();
    }

    private static void due(String what, long got, long want) {
        s.check.due(what, got, want);
    }

    private static void dueBits(String what, double got, double want) {
        due(what, Double.doubleToLongBits(got), Double.doubleToLongBits(want));
    }

    private static int c(String depths) {
        return Fixtures.c(depths);
    }

    private static void keyNumbers(Twins.NumberCall call) {
        s.twins.range("key of twelve", Fixtures::full, call, 0, 11, INDEX);
        s.twins.range("the only key", Fixtures::one, call, 0, 0, INDEX);
        s.twins.refuses("key 0 of none", Fixtures::fresh, x -> call.run(x, 0), INDEX);
        s.twins.refuses("key 3 of three", Fixtures::busy, x -> call.run(x, 3), INDEX);
    }

    /** Only 1000 and 2000 are free beside these, and the one lies under the other one. */
    private static NotchedKeys oneChain() {
        return Fixtures.keys("0001", "0010", "0100");
    }

    // ---- most, pick

    private static void most() {
        s.section("Promise 29:");
        s.holds("Tells the most free codes that are apart.",
                () -> s.twins.changesNothing("most", Fixtures::busy, x -> x.most(0) + x.most(1)));
        s.holds("`what`: 0: told by the fewest chains", () -> {
            due("no code is free", Fixtures.keys("0000").most(0), 0);
            due("all codes are free", new NotchedKeys().most(0), 19);
            due("one chain", oneChain().most(0), 1);
        });
        s.holds("1: told by the codes of the chosen set", () -> {
            due("no code is free", Fixtures.keys("2222").most(1), 0);
            due("all codes are free", new NotchedKeys().most(1), 19);
            due("one chain", oneChain().most(1), 1);
        });
        s.holds("Returns how many", () -> {
            NotchedKeys x = Fixtures.twelve();
            due("more than there can be keys", new NotchedKeys().most(1), 19);
            due("with twelve keys", x.most(0), 7);
            due("with twelve keys", x.most(1), 7);
            x.set(0, 1);
            due("sound ones alone", x.most(0), x.most(1));
            x.undo();
            due("as before", x.most(0), 7);
            x.set(3, 0);
            for (int k = 0; k < 12; k++) {
                x.lose(k);
            }
            due("all keys are lost and do not count", x.most(0), 19);
        });
        s.holds("Throws `IllegalArgumentException` if what is not 0 or 1", () -> {
            s.twins.range("what", Fixtures::fresh, NotchedKeys::most, 0, 1, ARGUMENT);
            s.twins.range("what", Fixtures::full, NotchedKeys::most, 0, 1, ARGUMENT);
        });
    }

    private static void pick() {
        s.section("Promise 30:");
        s.holds("Tells a code of the chosen set.",
                () -> s.twins.changesNothing("pick", Fixtures::busy, x -> x.pick(0) + x.pick(99)));
        s.holds("`rank`: 0 for the least code of the set, and so on", () -> {
            NotchedKeys x = new NotchedKeys();
            for (int rank = 0; rank <= 18; rank++) {
                due("rank " + rank, x.pick(rank), Fixtures.LEVEL_4[rank]);
            }
            NotchedKeys y = Fixtures.twelve();
            for (int rank = 0; rank <= 6; rank++) {
                due("rank " + rank + " with twelve keys", y.pick(rank), Fixtures.LEVEL_4[12 + rank]);
            }
        });
        s.holds("NONE if the set has not so many", () -> {
            NotchedKeys x = new NotchedKeys();
            due("rank 19 of 19", x.pick(19), NotchedKeys.NONE);
            due("rank 81", x.pick(81), NotchedKeys.NONE);
            due("the greatest rank", x.pick(Integer.MAX_VALUE), NotchedKeys.NONE);
            due("rank 7 of 7", Fixtures.twelve().pick(7), NotchedKeys.NONE);
            due("rank 0 of none", Fixtures.keys("0000").pick(0), NotchedKeys.NONE);
            due("rank 1 of 1", oneChain().pick(1), NotchedKeys.NONE);
            due("rank 0 of 1, the least of two codes", oneChain().pick(0), c("1000"));
            x.cut(80, 0);
            due("what was chosen before is gone", x.pick(0), NotchedKeys.NONE);
        });
        s.holds("Throws `IndexOutOfBoundsException` if rank is below 0", () -> {
            s.twins.refuses("-1", Fixtures::fresh, x -> x.pick(-1), INDEX);
            s.twins.refuses("-1 with no free code", () -> Fixtures.keys("0000"), x -> x.pick(-1), INDEX);
            s.twins.refuses("the least number", Fixtures::busy, x -> x.pick(Integer.MIN_VALUE), INDEX);
            s.twins.changesNothing("0", Fixtures::fresh, x -> x.pick(0));
        });
    }

    // ---- opener

    private static void opener() {
        s.section("Promise 31:");
        s.holds("Finds the shallowest key for some locks.",
                () -> s.twins.changesNothing("opener", Fixtures::busy, x -> x.opener(9)));
        s.holds("a set of locks, as a mask: at least one, and no places without a lock", () -> {
            s.twins.range("all places have locks", Fixtures::sixLocks, NotchedKeys::opener, 1, 63, ARGUMENT);
            s.twins.refuses("no lock", Fixtures::sixLocks, x -> x.opener(0), ARGUMENT);
            for (int place = 0; place <= 5; place++) {
                int only = place;
                s.twins.range("the only lock", () -> {
                    NotchedKeys x = new NotchedKeys();
                    x.ward(only, 0);
                    return x;
                }, NotchedKeys::opener, 1 << only, 1 << only, ARGUMENT);
                s.twins.refuses("all but one", () -> {
                    NotchedKeys x = Fixtures.sixLocks();
                    x.take(only);
                    return x;
                }, x -> x.opener(63), ARGUMENT);
            }
            for (int bit = 6; bit <= 31; bit++) {
                int beyond = bit;
                s.twins.refuses("no place " + bit, Fixtures::sixLocks, x -> x.opener(1 << beyond), ARGUMENT);
                s.twins.refuses("no place " + bit, Fixtures::sixLocks, x -> x.opener(1 | 1 << beyond), ARGUMENT);
            }
        });
        s.holds("Returns of the sound codes with which a key would open all of them the one with the least", () -> {
            NotchedKeys x = new NotchedKeys();
            for (int ward = 0; ward <= 80; ward++) {
                x.ward(5, ward);
                due("the ward alone", x.opener(32), ward);
            }
            x.ward(0, c("0200"));
            x.guest(0, c("1001"));
            x.ward(5, c("1000"));
            due("by the guest ward of one", x.opener(33), c("1001"));
            x.cut(c("1001"), 0);
            due("it need not be free", x.opener(33), c("1001"));
            x.set(0, 1);
            due("the guest ward is sound", x.opener(1), c("1001"));
            x.guest(0, NotchedKeys.NONE);
            due("the ward is not", x.opener(1), c("1210"));
        });
        s.holds("of several the least code", () -> {
            NotchedKeys x = new NotchedKeys();
            x.ward(0, c("1000"));
            x.guest(0, c("0001"));
            due("of the two wards", x.opener(1), c("0001"));
            x.ward(1, c("0100"));
            x.guest(1, c("0010"));
            due("of four", x.opener(3), c("0011"));
        });
        s.holds("NONE if there is none", () -> {
            NotchedKeys x = Fixtures.sixLocks();
            for (int place = 0; place <= 5; place++) {
                x.ward(place, 80);
            }
            x.set(0, 1);
            due("the code 80 is sound and opens every lock, so there is always one", x.opener(63), 80);
        });
        s.holds("Throws `IllegalArgumentException` if locks is no such set", () -> {
            s.twins.refuses("no lock at all", Fixtures::fresh, x -> x.opener(1), ARGUMENT);
            s.twins.refuses("a place without a lock", Fixtures::busy, x -> x.opener(1 + 2), ARGUMENT);
            s.twins.refuses("every bit", Fixtures::sixLocks, x -> x.opener(-1), ARGUMENT);
        });
    }

    // ---- worn, crossedIn

    private static void worn() {
        s.section("Promise 32:");
        s.holds("Tells what use makes of a key.",
                () -> s.twins.changesNothing("worn", Fixtures::busy, x -> x.worn(0, 99)));
        s.holds("`key`: the number of a key", () -> keyNumbers((x, key) -> x.worn(key, 5)));
        s.holds("`uses`: 0 to 99: further uses", () -> {
            s.twins.range("uses", Fixtures::busy, (x, uses) -> x.worn(0, uses), 0, 99, ARGUMENT);
            due("0", Fixtures.keys("0000").worn(0, 0), 0);
        });
        s.holds("Returns its code behind them", () -> {
            for (int every = 0; every <= 9; every++) {
                for (int before = 0; before <= 10; before += 5) {
                    wornAsByUse(every, before);
                }
            }
            NotchedKeys x = Fixtures.busy();
            due("a lost key", x.worn(1, 4), c("1120"));
            due("a key without locks", Fixtures.one().worn(0, 8), c("2112"));
        });
        s.holds("Throws `IndexOutOfBoundsException` if there is no such key",
                () -> s.twins.refuses("no key, 100 uses", Fixtures::busy, x -> x.worn(3, 100), INDEX));
        s.holds("Throws `IllegalArgumentException` if uses is out of range", () -> {
            s.twins.refuses("100 of the last key", Fixtures::full, x -> x.worn(11, 100), ARGUMENT);
            s.twins.refuses("-1 with setting 2 as 0", WouldBeTest::neverWorn, x -> x.worn(0, -1), ARGUMENT);
            s.twins.refuses("100 with setting 2 as 0", WouldBeTest::neverWorn, x -> x.worn(0, 100), ARGUMENT);
        });
    }

    private static NotchedKeys neverWorn() {
        NotchedKeys x = Fixtures.one();
        x.set(2, 0);
        return x;
    }

    /** What is told for each number of uses is what these uses make of the key. */
    private static void wornAsByUse(int every, int before) {
        NotchedKeys x = new NotchedKeys();
        x.cut(0, 0);
        x.ward(0, 0);
        x.set(2, every);
        for (int use = 0; use < before; use++) {
            x.turn(0, 0);
        }
        int[] told = new int[100];
        for (int uses = 0; uses <= 99; uses++) {
            told[uses] = x.worn(0, uses);
        }
        for (int uses = 0; uses <= 99; uses++) {
            due(uses + " uses by " + every + " behind " + before, told[uses], x.key(0, 0));
            x.turn(0, 0);
        }
    }

    private static void crossedIn() {
        s.section("Promise 33:");
        s.holds("Tells when use makes a key crossed.",
                () -> s.twins.changesNothing("crossedIn", Fixtures::busy, x -> x.crossedIn(0)));
        s.holds("`key`: the number of a key", () -> keyNumbers(NotchedKeys::crossedIn));
        s.holds("Returns behind how many further uses, 0 to 99, it is crossed with some other key", () -> {
            due("alike already", Fixtures.keys("0112", "0112").crossedIn(1), 0);
            due("under one already", Fixtures.keys("0112", "0111").crossedIn(1), 0);
            due("over one already", Fixtures.keys("0112", "0111").crossedIn(0), 0);
            for (int every = 1; every <= 9; every++) {
                NotchedKeys x = Fixtures.keys("1000", "0222");
                x.set(2, every);
                due("1000 becomes 2222 first, by " + every, x.crossedIn(0), 7 * every);
                due("0222 becomes 1222 first, by " + every, x.crossedIn(1), every);
                due("not one use earlier", x.worn(0, 7 * every - 1), c("2221"));
            }
            crossedOnTheWay();
        });
        s.holds("if nothing else changes (lost keys count, and a lost key as if it could be used)", () -> {
            NotchedKeys x = Fixtures.keys("1000", "0222");
            x.set(3, 0);
            x.lose(1);
            due("beside a lost one", x.crossedIn(0), 28);
            x.lose(0);
            due("a lost one beside a lost one", x.crossedIn(0), 28);
            x.find(1);
            due("a lost one", x.crossedIn(0), 28);
        });
        s.holds("NONE if it is not in 99", () -> {
            due("the only key", Fixtures.one().crossedIn(0), NotchedKeys.NONE);
            NotchedKeys x = Fixtures.twelve();
            x.set(2, 0);
            for (int k = 0; k < 12; k++) {
                due("no key is worn", x.crossedIn(k), NotchedKeys.NONE);
            }
            NotchedKeys y = Fixtures.keys("2222");
            due("the deepest key alone", y.crossedIn(0), NotchedKeys.NONE);
        });
        s.holds("Throws `IndexOutOfBoundsException` if there is no such key",
                () -> s.twins.refuses("a key that is gone", () -> {
                    NotchedKeys x = Fixtures.twelve();
                    x.retire(0);
                    return x;
                }, x -> x.crossedIn(11), INDEX));
    }

    /** Uses that are made already bring the first crossing nearer. */
    private static void crossedOnTheWay() {
        due("under the second of three", Fixtures.keys("1000", "1120", "0222").crossedIn(0), 0);
        NotchedKeys y = Fixtures.keys("0020", "1110");
        y.ward(0, c("0020"));
        due("1120 lies over 1110, 1020 does not", y.crossedIn(0), 8);
        for (int use = 1; use <= 7; use++) {
            y.turn(0, 0);
            due("behind " + use, y.crossedIn(0), 8 - use);
        }
        y.turn(0, 0);
        due("crossed now", y.crossedIn(0), 0);
        NotchedKeys z = Fixtures.keys("0101", "1002");
        z.set(2, 1);
        due("1102 lies over 0101", z.crossedIn(1), 1);
        due("only 2222 lies over 1002", z.crossedIn(0), 6);
    }

    // ---- the shares

    private static void freeShare() {
        s.section("Promise 34:");
        s.holds("Returns how many codes are free.",
                () -> s.twins.changesNothing("freeShare", Fixtures::busy, x -> (long) x.freeShare()));
        s.holds("Returns the free codes, as a double, divided by the sound codes", () -> {
            dueBits("all", new NotchedKeys().freeShare(), 1.0);
            dueBits("none", Fixtures.keys("0000").freeShare(), 0.0);
            dueBits("50 of 81", Fixtures.keys("1111").freeShare(), 50.0 / 81.0);
            NotchedKeys x = Fixtures.keys("1111");
            x.set(0, 1);
            dueBits("10 of 41", x.freeShare(), 10.0 / 41.0);
            dueBits("with twelve keys", Fixtures.twelve().freeShare(), (double) Fixtures.twelve().count(10) / 81.0);
        });
    }

    private static void meanLevel() {
        s.section("Promise 35:");
        s.holds("Returns how deep keys are.",
                () -> s.twins.changesNothing("meanLevel", Fixtures::busy, x -> (long) x.meanLevel()));
        s.holds("Returns the levels of all keys together, as a float, divided by their number", () -> {
            dueBits("level 0", Fixtures.keys("0000").meanLevel(), 0.0f);
            dueBits("level 8", Fixtures.keys("2222").meanLevel(), 8.0f);
            dueBits("twelve keys", Fixtures.twelve().meanLevel(), 4.0f);
            dueBits("lost ones too", Fixtures.twelveLost().meanLevel(), 4.0f);
            dueBits("5 of 3", Fixtures.keys("0001", "0011", "0200").meanLevel(), 5.0f / 3.0f);
            NotchedKeys x = Fixtures.twelve();
            x.set(3, 0);
            for (int k = 1; k < 12; k++) {
                x.lose(k);
            }
            x.deepen(0, 0);
            dueBits("49 of 12", x.meanLevel(), 49.0f / 12.0f);
            NotchedKeys y = Fixtures.keys("0001", "0011", "2222");
            y.retire(2);
            dueBits("without the last, which is gone", y.meanLevel(), 1.5f);
            y.retire(0);
            dueBits("without the first", y.meanLevel(), 2.0f);
        });
        s.holds("0.0f without keys", () -> {
            dueBits("no key", new NotchedKeys().meanLevel(), 0.0f);
            NotchedKeys x = Fixtures.one();
            x.retire(0);
            dueBits("no key any more", x.meanLevel(), 0.0f);
        });
    }

    // ---- digest

    private static void digest() {
        s.section("Promise 36:");
        s.holds("Computes a hash of the whole state.",
                () -> s.twins.changesNothing("digest", Fixtures::busy, NotchedKeys::digest));
        s.holds("The hash starts at 3613.", () -> due("a new object", new NotchedKeys().digest(),
                Told.digest(new NotchedKeys(), false, "")));
        s.holds("the hash becomes 31 * hash + v, in long arithmetic with overflow", () -> {
            boolean below = false;
            boolean above = false;
            NotchedKeys x = new NotchedKeys();
            for (int length = 0; length <= 60; length++) {
                due("with " + length + " characters", x.digest(), Told.digest(x, false, "~".repeat(length)));
                below = below || x.digest() < 0;
                above = above || x.digest() > 0;
                if (length < 60) {
                    x.append('~');
                }
            }
            s.check.dueTrue("it goes below 0 and above 0", below && above);
        });
        s.holds("the length of the buffer and each of its character codes", () -> {
            due("an empty buffer", Fixtures.full().digest(), Told.digest(Fixtures.full(), false, ""));
            NotchedKeys x = Fixtures.write(new NotchedKeys(), "!");
            due("the least character", x.digest(), Told.digest(x, false, "!"));
            x.clearBuffer();
            due("cleared", x.digest(), Told.digest(new NotchedKeys(), false, ""));
            NotchedKeys y = Fixtures.write(Fixtures.busy(), "~!");
            due("some of everything", y.digest(), Told.digest(y, true, "d0,3;c11~!"));
            NotchedKeys z = Fixtures.full();
            z.keep();
            due("as much as there can be, and a snapshot", z.digest(), Told.digest(z, true, ""));
        });
        s.holds("Returns the hash", () -> {
            NotchedKeys x = Fixtures.busy();
            long hash = x.digest();
            due("again", x.digest(), hash);
            due("of an object made the same way", Fixtures.busy().digest(), hash);
        });
    }

    private static void digestValues() {
        s.holds("1 if there is a snapshot, otherwise 0", () -> {
            NotchedKeys x = new NotchedKeys();
            due("without", x.digest(), Told.digest(x, false, ""));
            x.keep();
            due("with one", x.digest(), Told.digest(x, true, ""));
            x.goBack();
            due("it stays", x.digest(), Told.digest(x, true, ""));
        });
        s.holds("the bits of freeShare (as Double.doubleToLongBits)", () -> {
            String[][] rows = {{"0000"}, {"0001"}, {"1111"}, {"2221"}, {"0111", "2000"}, {"0222", "2022"}};
            for (String[] row : rows) {
                NotchedKeys x = Fixtures.keys(row);
                due("share " + x.freeShare(), x.digest(), Told.digest(x, false, ""));
            }
            NotchedKeys y = Fixtures.keys("2202", "0222", "2022", "1110");
            for (int step = 2; step >= 1; step--) {
                y.set(0, step);
                due("share " + y.freeShare(), y.digest(), Told.digest(y, false, ""));
            }
        });
        s.holds("the bits of meanLevel (as Float.floatToIntBits)", () -> {
            NotchedKeys x = new NotchedKeys();
            x.set(3, 0);
            String[] codes = {"0000", "0010", "2000", "0111", "1210", "0221", "2202", "2122", "2222", "2222", "0001"};
            for (String code : codes) {
                x.cut(c(code), 0);
                due("mean " + x.meanLevel(), x.digest(), Told.digest(x, false, ""));
                x.lose(x.count(0) - 1);
            }
            while (x.count(0) > 1) {
                x.retire(0);
                due("mean " + x.meanLevel(), x.digest(), Told.digest(x, false, ""));
            }
        });
    }
}
