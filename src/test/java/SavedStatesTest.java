/**
 * The sentences of 'What it is', 'Undo' and 'Exceptions' and of the promises 1 and 17 to 19, about new
 * objects, saved states and the snapshot, each with a test of its own.
 */
public final class SavedStatesTest {
    private static final Class<IllegalArgumentException> ARGUMENT = IllegalArgumentException.class;
    private static final Class<IllegalStateException> STATE = IllegalStateException.class;
    private static final Class<IndexOutOfBoundsException> INDEX = IndexOutOfBoundsException.class;

    private static final Sentences s = new Sentences();

    private SavedStatesTest() {
    }

    public static void main(String[] args) {
        whatItIs();
        undoOfAll();
        mostSaved();
        exceptions();
        newObject();
        keep();
        goBack();
        undo();
        s.end();
    }

    private static void due(String what, long got, long want) {
        s.check.due(what, got, want);
    }

    private static int c(String depths) {
        return Fixtures.c(depths);
    }

    private static void whatItIs() {
        s.section("What it is");
        s.isTestedElsewhere("Notched keys of which none opens by being deeper than it should");
        s.holds("An object is used for at most 512 calls after it has been made", () -> {
            NotchedKeys x = new NotchedKeys();
            x.ward(0, 0);
            x.cut(0, 3);
            x.set(2, 9);
            for (int call = 4; call <= 511; call++) {
                due("call " + call, x.turn(0, 0), 1);
            }
            due("the call 512", x.key(0, 3), 508);
            NotchedKeys y = new NotchedKeys();
            for (int call = 1; call <= 256; call++) {
                due("cut and away", y.cut(80, 0) + y.retire(0), 0);
            }
            due("pence behind 512 calls", y.count(4), 256 * 16);
            NotchedKeys z = new NotchedKeys();
            for (int call = 1; call <= 511; call++) {
                z.set(2, call % 10);
            }
            due("saved states at the call 512", z.count(11), 6);
        });
        s.section("Terms");
        s.isTestedElsewhere("All numbers are integers, but for two shares; divisions are rounded down");
    }

    // ---- undo

    private static void undoOfAll() {
        s.section("Undo");
        s.holds("(also if it changes nothing)", () -> {
            s.twins.undoable("give", Fixtures::one, x -> x.give(0, 0));
            s.twins.undoable("ward", Fixtures::sixLocks, x -> x.ward(5, 0));
            s.twins.undoable("guest", Fixtures::sixLocks, x -> x.guest(5, -1));
            s.twins.undoable("set", Fixtures::fresh, x -> x.set(3, 1));
            s.twins.undoable("goBack", () -> kept(Fixtures.fresh()), NotchedKeys::goBack);
            s.twins.undoable("obey", SavedStatesTest::aboutToStopAgain, NotchedKeys::obey);
        });
        s.holds("all, also what is counted so far", () -> {
            NotchedKeys x = wearingUse();
            int[] before = counted(x);
            x.turn(0, 0);
            x.turn(0, 5);
            x.deepen(0, 1);
            x.retire(0);
            int[] behind = counted(x);
            for (int i = 0; i < before.length; i++) {
                s.check.dueTrue("counted " + i, behind[i] > before[i]);
            }
            for (int i = 0; i < 4; i++) {
                x.undo();
            }
            for (int i = 0; i < before.length; i++) {
                due("undone " + i, counted(x)[i], before[i]);
            }
            due("uses of the key", x.key(0, 3), 0);
            due("its wear", x.key(0, 9), 0);
            due("its code", x.key(0, 0), c("0112"));
        });
        s.holds("and the latest stop", () -> {
            NotchedKeys x = Fixtures.one();
            Fixtures.obey(x, "l0;l0");
            Fixtures.obey(x, "t0,0");
            due("reason", x.stopped(1), 8);
            x.undo();
            due("order of the stop before", x.stopped(0), 1);
            due("reason of the stop before", x.stopped(1), 9);
            x.undo();
            due("no stop", x.stopped(0), -1);
            due("no reason", x.stopped(1), -1);
        });
        s.holds("but the buffer, the snapshot and the saved states", () -> {
            NotchedKeys x = new NotchedKeys();
            x.set(1, 1);
            x.set(1, 3);
            x.keep();
            Fixtures.write(x, "l0;x");
            x.set(1, 4);
            due("undo", x.undo(), 2);
            due("the buffer stays", x.firstError(), 3);
            due("undo goes on to the state before", x.undo(), 1);
            due("price", x.setting(1), 1);
            due("undo", x.undo(), 0);
            due("the snapshot stays", x.goBack(), 0);
            due("price as kept", x.setting(1), 3);
            due("the buffer stays", x.clearBuffer(), 4);
            NotchedKeys y = Fixtures.one();
            Fixtures.obey(y, "l0");
            y.undo();
            due("the text that was done does not come back", y.clearBuffer(), 0);
        });
    }

    private static NotchedKeys kept(NotchedKeys x) {
        x.keep();
        return x;
    }

    private static NotchedKeys aboutToStopAgain() {
        NotchedKeys x = Fixtures.one();
        Fixtures.obey(x, "f0");
        return Fixtures.write(x, "f0");
    }

    private static NotchedKeys wearingUse() {
        NotchedKeys x = Fixtures.one();
        x.ward(0, 0);
        x.ward(5, 80);
        x.set(2, 1);
        return x;
    }

    private static int[] counted(NotchedKeys x) {
        return new int[] {
            x.count(4), x.count(5), x.count(6), x.count(7), x.count(8), x.person(0, 2), x.lock(0, 3), x.lock(5, 4)
        };
    }

    private static void mostSaved() {
        s.holds("At most 6 states are saved", () -> {
            NotchedKeys x = new NotchedKeys();
            for (int calls = 0; calls <= 20; calls++) {
                due("behind " + calls, x.count(11), Math.min(calls, 6));
                x.set(2, calls % 10);
            }
        });
        s.holds("the oldest one is dropped first", () -> {
            for (int calls = 1; calls <= 20; calls++) {
                NotchedKeys x = new NotchedKeys();
                for (int call = 1; call <= calls; call++) {
                    x.ward(0, call);
                }
                for (int back = 1; back <= Math.min(calls, 6); back++) {
                    due("undo", x.undo(), Math.min(calls, 6) - back);
                    due(back + " back of " + calls, x.lock(0, 0), back == calls ? -1 : calls - back);
                }
                s.check.due("no more", Check.answer(x::undo), "IllegalStateException");
                x.ward(0, 80);
                due("saved again", x.count(11), 1);
                due("undo", x.undo(), 0);
                due("where undo ended", x.lock(0, 0), calls <= 6 ? -1 : calls - 6);
            }
        });
    }

    // ---- exceptions

    private static void exceptions() {
        s.section("Exceptions");
        s.holds("A call that throws an exception changes nothing.", () -> {
            s.twins.refuses("argument", Fixtures::busy, x -> x.cut(81, 0), ARGUMENT);
            s.twins.refuses("state", Fixtures::busy, x -> x.cut(c("0112"), 0), STATE);
            s.twins.refuses("index", Fixtures::busy, x -> x.turn(3, 0), INDEX);
            s.twins.refuses("a text that is refused", Fixtures::busy, NotchedKeys::obey, ARGUMENT);
            s.twins.refuses("undo", () -> kept(Fixtures.fresh()), NotchedKeys::undo, STATE);
            s.twins.refuses("goBack", Fixtures::one, NotchedKeys::goBack, STATE);
        });
        s.holds("the one that is named first in the throws clause is thrown", () -> {
            s.twins.refuses("cut", Fixtures::busy, x -> x.cut(c("0112"), 4), ARGUMENT);
            s.twins.refuses("deepen", Fixtures::busy, x -> x.deepen(0, 4), INDEX);
            s.twins.refuses("give", Fixtures::fresh, x -> x.give(0, 4), INDEX);
            s.twins.refuses("ward", Fixtures::fresh, x -> x.ward(6, 81), INDEX);
            s.twins.refuses("guest, index and argument", Fixtures::fresh, x -> x.guest(6, 81), INDEX);
            s.twins.refuses("guest, index and state", Fixtures::fresh, x -> x.guest(6, 0), INDEX);
            s.twins.refuses("guest, argument and state", Fixtures::fresh, x -> x.guest(5, 81), ARGUMENT);
            s.twins.refuses("take", Fixtures::fresh, x -> x.take(6), INDEX);
            s.twins.refuses("turn, no key and no lock", Fixtures::fresh, x -> x.turn(0, 0), INDEX);
            s.twins.refuses("turn, a lost key and no place", Fixtures::twelveLost, x -> x.turn(0, 6), INDEX);
            s.twins.refuses("set", Fixtures::fresh, x -> x.set(4, -1), INDEX);
            s.twins.refuses("append", SavedStatesTest::sixty, x -> x.append(127), ARGUMENT);
            s.twins.refuses("key", Fixtures::fresh, x -> x.key(0, 10), INDEX);
            s.twins.refuses("lock", Fixtures::fresh, x -> x.lock(6, 6), INDEX);
            s.twins.refuses("person", Fixtures::fresh, x -> x.person(4, 3), INDEX);
            s.twins.refuses("level", Fixtures::fresh, x -> x.level(9, 4), INDEX);
            s.twins.refuses("worn", Fixtures::fresh, x -> x.worn(0, 100), INDEX);
        });
        s.holds("`NONE = -1`", () -> due("NONE", NotchedKeys.NONE, -1));
        s.isTestedElsewhere("the interface says: ---- keys.");
        s.isTestedElsewhere("the interface says: ---- locks.");
        s.isTestedElsewhere("the interface says: ---- texts, the snapshot.");
        s.holds("---- looks; nothing is changed", () -> {
            s.twins.changesNothing("with some of everything", Fixtures::busy, SavedStatesTest::allLooks);
            s.twins.changesNothing("with keys and locks as many as there can be", Fixtures::full,
                    SavedStatesTest::allLooks);
            s.twins.changesNothing("with nothing", Fixtures::fresh, SavedStatesTest::allLooks);
        });
        s.holds("---- what would be; nothing is changed", () -> {
            s.twins.changesNothing("with some of everything", Fixtures::busy, SavedStatesTest::allThatWouldBe);
            s.twins.changesNothing("with keys and locks as many as there can be", Fixtures::full,
                    SavedStatesTest::allThatWouldBe);
            s.twins.changesNothing("with nothing", Fixtures::fresh, SavedStatesTest::allThatWouldBe);
        });
    }

    private static NotchedKeys sixty() {
        return Fixtures.write(new NotchedKeys(), "x".repeat(60));
    }

    private static long allLooks(NotchedKeys x) {
        long sum = 0;
        for (int k = 0; k < x.count(0); k++) {
            for (int what = 0; what <= 9; what++) {
                sum += x.key(k, what) + x.why(k, what % 4);
            }
        }
        for (int what = 0; what <= 5; what++) {
            for (int place = 0; place <= 5; place++) {
                sum += x.lock(place, what);
            }
            sum += x.code(13, what) + x.level(4, what % 4) + x.person(3, what % 3) + x.setting(what % 4);
        }
        for (int what = 0; what <= 11; what++) {
            sum += x.count(what) + x.stopped(what % 2);
        }
        return sum;
    }

    private static long allThatWouldBe(NotchedKeys x) {
        double sum = x.most(0) + x.most(1) + x.pick(0) + x.pick(30) + x.freeShare() + x.meanLevel();
        for (int k = 0; k < x.count(0); k++) {
            sum += x.worn(k, 99) + x.crossedIn(k);
        }
        if (x.count(2) > 0) {
            sum += x.opener(1);
        }
        return (long) sum + x.digest();
    }

    // ---- the promises

    private static void newObject() {
        s.section("Promise 1:");
        s.holds("Creates places for locks, without keys and locks, with an empty buffer and no snapshot", () -> {
            NotchedKeys x = new NotchedKeys();
            for (int what = 0; what <= 8; what++) {
                due("count " + what, x.count(what), 0);
            }
            due("saved states", x.count(11), 0);
            for (int place = 0; place <= 5; place++) {
                for (int what = 0; what <= 5; what++) {
                    due("no lock", x.lock(place, what), -1);
                }
            }
            for (int person = 0; person <= 3; person++) {
                for (int what = 0; what <= 2; what++) {
                    due("person", x.person(person, what), 0);
                }
            }
            due("no error in an empty buffer", x.firstError(), 0);
            due("an empty buffer", x.clearBuffer(), 0);
            s.twins.refuses("no key", Fixtures::fresh, y -> y.key(0, 0), INDEX);
            s.twins.refuses("no snapshot", Fixtures::fresh, NotchedKeys::goBack, STATE);
            s.twins.refuses("no saved state", Fixtures::fresh, NotchedKeys::undo, STATE);
            s.twins.refuses("no text", Fixtures::fresh, NotchedKeys::obey, ARGUMENT);
            long hash = new NotchedKeys().digest();
            Fixtures.busy();
            due("no object bears on another one", new NotchedKeys().digest(), hash);
        });
    }

    private static void keep() {
        s.section("Promise 17:");
        s.holds("of all that undo() would restore", () -> {
            NotchedKeys x = Fixtures.busy();
            String state = Twins.state(x);
            int saved = x.count(11);
            int length = x.firstError();
            x.keep();
            due("not undoable", x.count(11), saved);
            due("the buffer stays", x.firstError(), length);
            x.retire(0);
            x.take(3);
            x.set(1, 1);
            Fixtures.obey(x, "l0;l11");
            x.goBack();
            s.check.due("as kept", Twins.state(x), state);
            due("but the buffer", x.clearBuffer(), 0);
        });
        s.holds("in place of the one that was", () -> {
            NotchedKeys x = Fixtures.twelve();
            x.keep();
            x.retire(11);
            x.keep();
            x.cut(Fixtures.LEVEL_4[15], 0);
            due("the second one", x.goBack(), 11);
            due("keep of what it is already", x.keep(), 11);
            x.retire(0);
            x.undo();
            x.undo();
            due("undo does not bring the first one back", x.goBack(), 11);
        });
        s.holds("Returns how many keys there are", () -> {
            due("none", Fixtures.fresh().keep(), 0);
            due("one", Fixtures.one().keep(), 1);
            due("twelve", Fixtures.twelve().keep(), 12);
            due("lost ones too", Fixtures.twelveLost().keep(), 12);
        });
    }

    private static void goBack() {
        s.section("Promise 18:");
        s.holds("Goes back to the snapshot, which stays.", () -> {
            NotchedKeys x = kept(Fixtures.twelve());
            String state = Twins.state(x);
            for (int times = 1; times <= 8; times++) {
                x.retire(0);
                x.set(3, 0);
                due("back", x.goBack(), 12);
                s.check.due("as kept", Twins.state(x), state);
            }
            x.deepen(0, shallow(x));
            due("a change behind goBack is none of the snapshot", x.goBack(), 12);
            s.check.due("as kept", Twins.state(x), state);
        });
        s.holds("Undoable.", () -> {
            s.twins.undoable("goBack with six saved states", Fixtures::busy, NotchedKeys::goBack);
            s.twins.undoable("goBack with none", () -> kept(Fixtures.fresh()), NotchedKeys::goBack);
            s.twins.undoable("from twelve keys to none", () -> {
                NotchedKeys x = kept(Fixtures.fresh());
                for (int i = 0; i < 12; i++) {
                    x.cut(Fixtures.LEVEL_4[i], i % 4);
                }
                return x;
            }, NotchedKeys::goBack);
        });
        s.holds("Returns how many keys there are then", () -> {
            NotchedKeys x = kept(Fixtures.fresh());
            x.cut(0, 0);
            due("none", x.goBack(), 0);
            NotchedKeys y = kept(Fixtures.twelve());
            for (int i = 0; i < 12; i++) {
                y.retire(0);
            }
            due("twelve", y.goBack(), 12);
        });
        s.holds("Throws `IllegalStateException` if there is no snapshot", () -> {
            s.twins.refuses("none", Fixtures::fresh, NotchedKeys::goBack, STATE);
            s.twins.refuses("none, with saved states", Fixtures::twelve, NotchedKeys::goBack, STATE);
        });
    }

    /** A notch that can be cut deeper once the other keys of twelve do not count. */
    private static int shallow(NotchedKeys x) {
        for (int k = 1; k < 12; k++) {
            x.lose(k);
        }
        x.set(3, 0);
        return Fixtures.depths(x.key(0, 0)).indexOf('0');
    }

    private static void undo() {
        s.section("Promise 19:");
        s.holds("Restores the latest saved state, and drops it.", () -> {
            NotchedKeys x = new NotchedKeys();
            x.set(2, 7);
            x.set(2, 8);
            x.undo();
            due("the latest", x.setting(2), 7);
            x.undo();
            due("the one before", x.setting(2), 4);
            s.check.due("both are dropped", Check.answer(x::undo), "IllegalStateException");
            NotchedKeys y = new NotchedKeys();
            y.set(2, 7);
            y.undo();
            y.set(2, 9);
            due("undo is not undoable itself", y.undo(), 0);
            due("as at first", y.setting(2), 4);
        });
        s.holds("Returns how many saved states are left", () -> {
            NotchedKeys x = Fixtures.twelve();
            for (int left = 5; left >= 0; left--) {
                due("left", x.undo(), left);
                due("saved states", x.count(11), left);
            }
        });
        s.holds("Throws `IllegalStateException` if there is none", () -> {
            s.twins.refuses("never one", Fixtures::fresh, NotchedKeys::undo, STATE);
            s.twins.refuses("all are used", () -> {
                NotchedKeys x = Fixtures.twelve();
                for (int i = 0; i < 6; i++) {
                    x.undo();
                }
                return x;
            }, NotchedKeys::undo, STATE);
        });
    }
}
