/** The sentences of 'Input text' and of the promises 13 to 16 and 28, each with a test of its own. */
public final class TextCallsTest {
    private static final Class<IllegalArgumentException> ARGUMENT = IllegalArgumentException.class;
    private static final Class<IllegalStateException> STATE = IllegalStateException.class;

    /** What can be read so far, and the characters that can come next; those of a key stand as K. */
    private static final String[][] NEXT = {
        {"", "cdtlf"}, {"c", "012"}, {"c2", "012"}, {"c20", "012"}, {"c201", "012"}, {"c2012", "@"},
        {"c0000", "@"}, {"c2222", "@"}, {"c2222@", "0123"}, {"c2222@0", ";"}, {"c2222@3", ";"},
        {"d", "0123456789"}, {"dK", ","}, {"dK,", "0123"}, {"dK,0", ";"}, {"dK,3", ";"},
        {"t", "0123456789"}, {"tK", ","}, {"tK,", "012345"}, {"tK,0", ";"}, {"tK,5", ";"},
        {"l", "0123456789"}, {"lK", ";"}, {"f", "0123456789"}, {"fK", ";"}
    };
    private static final String[] KEYS = {"0", "1", "2", "3", "4", "5", "6", "7", "8", "9", "10", "11"};

    private static final Sentences s = new Sentences();

    private TextCallsTest() {
    }

    public static void main(String[] args) {
        inputText();
        append();
        clearBuffer();
        firstError();
        obey();
        stopped();
        stoppedReasons();
        s.end();
    }

    private static void due(String what, long got, long want) {
        s.check.due(what, got, want);
    }

    private static int c(String depths) {
        return Fixtures.c(depths);
    }

    private static NotchedKeys twoKeys() {
        NotchedKeys x = Fixtures.keys("2200", "0220");
        x.ward(0, 0);
        x.ward(5, c("1000"));
        x.set(2, 1);
        return x;
    }

    /** An object with some of everything, but with just this text in the buffer. */
    private static NotchedKeys busyWith(String text) {
        NotchedKeys x = Fixtures.busy();
        x.clearBuffer();
        return Fixtures.write(x, text);
    }

    private static int firstErrorOf(String text) {
        return Fixtures.write(new NotchedKeys(), text).firstError();
    }

    private static String fullText() {
        return "l0;f0;".repeat(9) + "l11;f0";
    }

    // ---- the input text

    private static void inputText() {
        s.section("Input text");
        s.holds("The buffer has at most 60 characters.", () -> {
            NotchedKeys x = Fixtures.write(new NotchedKeys(), fullText());
            due("length", fullText().length(), 60);
            due("all of it is read", x.firstError(), 60);
            s.check.due("one more", Check.answer(() -> x.append(';')), "IllegalStateException");
            due("all of it is cleared", x.clearBuffer(), 60);
        });
        s.holds("one or more parts with \";\" between them", () -> {
            refused("", "no part");
            refused(";", "two empty parts");
            refused("l0;", "an empty part at the end");
            refused(";l0", "an empty part at the start");
            refused("l0;;f0", "an empty part between");
            refused("l0f0", "nothing between");
            due("one part", Fixtures.obey(Fixtures.busy(), "l0"), 1);
            due("two parts", Fixtures.obey(Fixtures.busy(), "l0;f0"), 2);
        });
        s.holds("\"c\", four depths, 0 to 2, \"@\" and an owner, 0 to 3 (a key is cut)", () -> {
            due("least", Fixtures.obey(new NotchedKeys(), "c0000@0"), 1);
            NotchedKeys x = new NotchedKeys();
            due("greatest", Fixtures.obey(x, "c2222@3"), 1);
            due("code", x.key(0, 0), 80);
            due("owner", x.key(0, 4), 3);
            NotchedKeys y = new NotchedKeys();
            Fixtures.obey(y, "c2012@1");
            due("the notches in their order", y.key(0, 0), c("2012"));
            refused("c000@0", "three depths");
            refused("c00000@0", "five depths");
            refused("c0003@0", "depth 3");
            refused("c0000@4", "owner 4");
        });
        s.holds("\"d\", a key, \",\" and a notch, 0 to 3 (it is cut deeper)", () -> {
            int[] codes = {27, 9, 3, 1};
            for (int notch = 0; notch <= 3; notch++) {
                NotchedKeys x = Fixtures.keys("0000");
                due("done", Fixtures.obey(x, "d0," + notch), 1);
                due("notch " + notch, x.key(0, 0), codes[notch]);
            }
            refused("d0,4", "notch 4");
            refused("d0", "no notch");
        });
        s.holds("\"t\", a key, \",\" and a lock, 0 to 5 (it is tried)", () -> {
            for (int place = 0; place <= 5; place++) {
                NotchedKeys x = Fixtures.full();
                due("done", Fixtures.obey(x, "t11," + place), 1);
                due("a use of the lock " + place, x.lock(place, 3), 1);
                due("a use of the key", x.key(11, 3), 1);
            }
            refused("t0,6", "lock 6");
            refused("t0", "no lock");
        });
        s.holds("\"l\" and a key (it is lost)", () -> {
            NotchedKeys x = Fixtures.twelve();
            due("done", Fixtures.obey(x, "l11"), 1);
            due("lost", x.key(11, 5), 1);
            refused("l", "no key");
        });
        s.holds("or \"f\" and a key (it is found)", () -> {
            NotchedKeys x = Fixtures.twelveLost();
            due("done", Fixtures.obey(x, "f11"), 1);
            due("found", x.key(11, 5), 0);
            refused("f", "no key");
        });
        s.holds("A key is 0 to 11, without leading zeros.", () -> {
            for (int key = 0; key <= 11; key++) {
                NotchedKeys x = Fixtures.twelve();
                due("key " + key, Fixtures.obey(x, "l" + key), 1);
                due("it is lost", x.key(key, 5), 1);
            }
            String[] none = {"12", "19", "20", "99", "00", "01", "010", "011", "100", "110", "111", "-1", "+1"};
            for (String key : none) {
                refused("l" + key, "key " + key);
            }
        });
        s.holds("The buffer is read from left to right", () -> {
            due("the first error of two", firstErrorOf("c00x0@9"), 3);
            due("an error hides what comes behind it", firstErrorOf("xl0"), 0);
            due("errors behind a right part", firstErrorOf("l0;xx"), 3);
        });
        s.holds("a character is a syntax error if no orders as a text, of any length, begin with", () -> {
            for (String[] row : NEXT) {
                for (String key : row[0].contains("K") ? KEYS : new String[] {""}) {
                    nextSigns(row[0].replace("K", key), row[1] + (row[0].endsWith("K") && key.equals("1") ? "01" : ""));
                }
            }
            due("orders that would not fit", firstErrorOf("l0;f0;".repeat(9) + "c2222@"), 60);
        });
    }

    private static void refused(String text, String what) {
        s.twins.refuses(what + ": " + text, () -> busyWith(text), NotchedKeys::obey, ARGUMENT);
    }

    /** Each character behind what was read, at the start of the text and behind another part. */
    private static void nextSigns(String read, String right) {
        for (char sign = 33; sign <= 126; sign++) {
            int due = read.length() + (right.indexOf(sign) >= 0 ? 1 : 0);
            due(read + sign, firstErrorOf(read + sign), due);
            due("l10;" + read + sign, firstErrorOf("l10;" + read + sign), due + 4);
        }
    }

    // ---- the buffer

    private static void append() {
        s.section("Promise 13:");
        s.holds("Appends a character to the buffer.", () -> {
            NotchedKeys x = Fixtures.busy();
            int saved = x.count(11);
            due("behind those that are there", x.append('0'), 9);
            due("not undoable", x.count(11), saved);
            due("the text goes on", x.firstError(), 9);
            NotchedKeys y = new NotchedKeys();
            y.append('l');
            due("not undoable", y.count(11), 0);
        });
        s.holds("`code`: the character code, 33 to 126", () -> {
            s.twins.range("an empty buffer", Fixtures::fresh, NotchedKeys::append, 33, 126, ARGUMENT);
            s.twins.range("59 characters", () -> Fixtures.write(new NotchedKeys(), "x".repeat(59)), NotchedKeys::append,
                    33, 126, ARGUMENT);
        });
        s.holds("Returns the new length of the buffer", () -> {
            NotchedKeys x = new NotchedKeys();
            for (int length = 1; length <= 60; length++) {
                due("length", x.append('~'), length);
            }
            x.clearBuffer();
            due("again", x.append('!'), 1);
        });
        s.holds("Throws `IllegalArgumentException` if code is not 33 to 126", () -> {
            s.twins.refuses("32 with a full buffer", TextCallsTest::sixty, x -> x.append(32), ARGUMENT);
            s.twins.refuses("127 with a full buffer", TextCallsTest::sixty, x -> x.append(127), ARGUMENT);
            s.twins.refuses("0", Fixtures::busy, x -> x.append(0), ARGUMENT);
        });
        s.holds("Throws `IllegalStateException` if the buffer has 60 characters", () -> {
            s.twins.refuses("33 as the 61st", TextCallsTest::sixty, x -> x.append(33), STATE);
            s.twins.refuses("126 as the 61st", TextCallsTest::sixty, x -> x.append(126), STATE);
        });
    }

    private static NotchedKeys sixty() {
        return busyWith(fullText());
    }

    private static void clearBuffer() {
        s.section("Promise 14:");
        s.holds("Clears the buffer.", () -> {
            NotchedKeys x = sixty();
            int saved = x.count(11);
            x.clearBuffer();
            due("nothing is left", x.firstError(), 0);
            due("not undoable", x.count(11), saved);
            s.check.due("as if it had been empty", Twins.trail(x), Twins.trail(busyWith("")));
            s.twins.changesNothing("an empty buffer", Fixtures::fresh, NotchedKeys::clearBuffer);
        });
        s.holds("Returns the length that it had", () -> {
            due("empty", new NotchedKeys().clearBuffer(), 0);
            due("one", Fixtures.write(new NotchedKeys(), "!").clearBuffer(), 1);
            due("full", sixty().clearBuffer(), 60);
        });
    }

    private static void firstError() {
        s.section("Promise 15:");
        s.holds("Finds the first syntax error of the buffer.", () -> {
            s.twins.changesNothing("with an error", () -> busyWith("l0;x"), NotchedKeys::firstError);
            s.twins.changesNothing("without one", Fixtures::busy, NotchedKeys::firstError);
            s.twins.changesNothing("an empty buffer", Fixtures::fresh, NotchedKeys::firstError);
            due("no error by keys that are not there", firstErrorOf("l11"), 3);
        });
        s.holds("Returns the index of the first character that is a syntax error", () -> {
            due("the first character", firstErrorOf("x"), 0);
            for (int at = 0; at < 60; at++) {
                String text = fullText().substring(0, at) + "?" + fullText().substring(at + 1);
                due("at " + at, firstErrorOf(text), at);
            }
        });
        s.holds("the length of the buffer if there is none", () -> {
            due("empty", firstErrorOf(""), 0);
            for (int length = 1; length <= 60; length++) {
                due("length", firstErrorOf(fullText().substring(0, length)), length);
            }
        });
    }

    // ---- obey

    private static void obey() {
        s.section("Promise 16:");
        s.holds("as cut(), deepen(), turn(), lose() and find() do, one after the other, up to the first one", () -> {
            NotchedKeys x = twoKeys();
            NotchedKeys y = twoKeys();
            due("done", Fixtures.obey(x, "c0022@2;d2,0;t2,5;l2;f2;t1,0"), 6);
            y.cut(c("0022"), 2);
            y.deepen(2, 0);
            y.turn(2, 5);
            y.lose(2);
            y.find(2);
            y.turn(1, 0);
            s.check.due("as by calls", Twins.state(x), Twins.state(y));
            due("one is done before the stop", Fixtures.obey(x, "l1;t2,4;l0"), 1);
            y.lose(1);
            due("order", x.stopped(0), 1);
            due("what is done stays", x.key(1, 5), 1);
            due("none is done behind the stop", x.key(0, 5), 0);
            due("nor the one that stops", x.count(6), y.count(6));
        });
        s.holds("and clears the buffer.", () -> {
            due("all done", behindObey("l0").clearBuffer(), 0);
            due("some done", behindObey("l0;l0;f0").clearBuffer(), 0);
            due("none done", behindObey("f0").clearBuffer(), 0);
            due("a full buffer", behindObey(fullText()).clearBuffer(), 0);
        });
        s.holds("Undoable, as one call, also if none is done.", () -> {
            undone("l0");
            undone("l0;f0;c0202@1;d0,2;t0,3");
            undone("l0;l0;f0");
            undone("f0");
            undone("l11");
            undone(fullText());
        });
        s.holds("The latest stop is that of this call then, or none, if all are done", () -> {
            NotchedKeys x = Fixtures.busy();
            due("a stop before", x.stopped(0), 1);
            Fixtures.obey(x, "l0");
            due("none", x.stopped(0), -1);
            due("no reason", x.stopped(1), -1);
            Fixtures.obey(x, "f0;t0,4");
            due("another one", x.stopped(0), 1);
            due("its reason", x.stopped(1), 8);
            x.undo();
            due("undone", x.stopped(0), -1);
        });
        s.holds("Returns how many are done", () -> {
            due("none", Fixtures.obey(new NotchedKeys(), "l0"), 0);
            due("all of one", Fixtures.obey(Fixtures.one(), "l0"), 1);
            due("one of three", Fixtures.obey(Fixtures.one(), "l0;l0;f0"), 1);
            due("all but the last", Fixtures.obey(Fixtures.one(), "l0;f0;f0"), 2);
            due("the most that there can be", Fixtures.obey(Fixtures.one(), "l0;f0;".repeat(9) + "l0;f0"), 20);
            NotchedKeys x = Fixtures.one();
            due("60 characters", Fixtures.obey(x, fullText()), 18);
            due("the last but one stopped it", x.stopped(0), 18);
            due("no key 11", x.stopped(1), 7);
            NotchedKeys y = Fixtures.twelve();
            y.lose(11);
            due("60 characters, all done", Fixtures.obey(y, "l0;f0;".repeat(9) + "l0;f11"), 20);
            due("the key of the last order", y.key(11, 5), 0);
        });
        s.holds("Throws `IllegalArgumentException` if the buffer is not complete orders as a text", () -> {
            refused("", "an empty buffer");
            for (int length = 1; length < 60; length++) {
                String text = fullText().substring(0, length);
                char last = text.charAt(length - 1);
                if (last == ';' || last == 'l' || last == 'f') {
                    refused(text, "not complete");
                }
            }
            String[] begun = {
                "c", "c0", "c00", "c000", "c0000", "c0000@", "d", "d1", "d11", "d1,", "t", "t1", "t11", "t1,", "l", "f"
            };
            for (String text : begun) {
                refused(text, "not complete");
                refused("l0;" + text, "behind a complete one");
            }
            refused("l0;x", "an error");
            refused("l0;f0;".repeat(9) + "c2222@", "60 characters, not complete");
        });
    }

    private static NotchedKeys behindObey(String text) {
        NotchedKeys x = Fixtures.busy();
        Fixtures.obey(x, text);
        return x;
    }

    private static void undone(String text) {
        s.twins.undoable("obey " + text, () -> busyWith(text), NotchedKeys::obey);
        s.twins.undoable("obey " + text, () -> Fixtures.write(Fixtures.one(), text), NotchedKeys::obey);
    }

    // ---- the latest stop

    private static void stopped() {
        s.section("Promise 28:");
        s.holds("Tells of the latest stop of obey().", () -> {
            s.twins.changesNothing("a look", Fixtures::busy, x -> x.stopped(1));
            NotchedKeys x = Fixtures.busy();
            s.check.due("a call of its own is no stop", Check.answer(() -> x.find(0)), "IllegalStateException");
            due("the stop of before", x.stopped(0), 1);
            s.check.due("nor is a text that is refused", Check.answer(x::obey), "IllegalArgumentException");
            due("the stop of before", x.stopped(1), 9);
            x.lose(0);
            x.clearBuffer();
            due("the stop of before", x.stopped(1), 9);
        });
        s.holds("`what`: 0: the number of the order that stopped it, from 0", () -> {
            for (int order = 0; order < 20; order++) {
                NotchedKeys x = Fixtures.one();
                String right = "l0;f0;".repeat(10).substring(0, 3 * order);
                Fixtures.obey(x, right + (order % 2 == 0 ? "f0" : "l0"));
                due("order", x.stopped(0), order);
                due("its reason", x.stopped(1), 9);
            }
        });
        s.holds("1: why: the reason 1 to 6 of a key or a notch that could not be cut", () -> {
            NotchedKeys x = Fixtures.twelve();
            x.set(0, 1);
            stop(x, "c0022@0", 1);
            stop(x, "c0111@0", 2);
            NotchedKeys y = Fixtures.one();
            stop(y, "c0112@0", 3);
            stop(y, "c0111@0", 4);
            stop(y, "c0122@0", 5);
            stop(y, "d0,3", 6);
            y.set(0, 1);
            stop(y, "d0,1", 1);
            stop(y, "c0202@0", 1);
            NotchedKeys z = Fixtures.keys("0111", "0112", "0002", "2110");
            stop(z, "d0,3", 3);
            stop(Fixtures.keys("0101", "0112"), "d0,2", 4);
            stop(Fixtures.keys("0111", "0002"), "d0,3", 5);
        });
    }

    private static void stop(NotchedKeys x, String text, int reason) {
        String before = Twins.stateButStop(x);
        due("done of " + text, Fixtures.obey(x, text), 0);
        s.check.due("all but the stop behind " + text, Twins.stateButStop(x), before);
        due("order of " + text, x.stopped(0), 0);
        due("reason of " + text, x.stopped(1), reason);
    }

    private static void stoppedReasons() {
        s.holds("7 if there is no such key", () -> {
            for (String order : new String[] {"d%,0", "t%,0", "l%", "f%"}) {
                stop(new NotchedKeys(), order.replace("%", "0"), 7);
                stop(Fixtures.busy(), order.replace("%", "3"), 7);
                NotchedKeys x = Fixtures.twelve();
                x.retire(0);
                stop(x, order.replace("%", "11"), 7);
            }
        });
        s.holds("8 if there is no lock", () -> {
            stop(Fixtures.twelve(), "t11,5", 8);
            stop(Fixtures.busy(), "t0,1", 8);
        });
        s.holds("9 if the key is lost (or, for \"f\", if it is not lost)", () -> {
            stop(Fixtures.busy(), "t1,0", 9);
            stop(Fixtures.busy(), "l1", 9);
            stop(Fixtures.busy(), "f0", 9);
            due("a lost key can be cut deeper", Fixtures.obey(Fixtures.busy(), "d1,0"), 1);
            NotchedKeys x = Fixtures.twelveLost();
            stop(x, "l11", 9);
        });
        s.holds("of several the one that is told first here", () -> {
            stop(new NotchedKeys(), "t0,0", 7);
            stop(Fixtures.busy(), "t3,1", 7);
            stop(Fixtures.busy(), "t1,1", 8);
            NotchedKeys x = Fixtures.twelve();
            x.set(0, 1);
            stop(x, "c0020@0", 1);
            stop(x, "c0112@0", 2);
            stop(Fixtures.keys("0011", "0111", "1111", "0100"), "d0,1", 3);
            stop(Fixtures.keys("0011", "0100", "1111"), "d0,1", 4);
        });
        s.holds("NONE if there is no stop", () -> {
            due("at first", new NotchedKeys().stopped(0), NotchedKeys.NONE);
            due("at first", new NotchedKeys().stopped(1), NotchedKeys.NONE);
            NotchedKeys x = behindObey("l0");
            due("behind a text that was done", x.stopped(0), NotchedKeys.NONE);
            due("behind a text that was done", x.stopped(1), NotchedKeys.NONE);
        });
        s.holds("Throws `IllegalArgumentException` if what is not 0 or 1", () -> {
            s.twins.range("what", Fixtures::fresh, NotchedKeys::stopped, 0, 1, ARGUMENT);
            s.twins.range("what", Fixtures::busy, NotchedKeys::stopped, 0, 1, ARGUMENT);
        });
    }
}
