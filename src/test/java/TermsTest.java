/** The sentences of the document's 'Terms', but for the input text and undo, each with a test of its own. */
public final class TermsTest {
    private static final Class<IllegalArgumentException> ARGUMENT = IllegalArgumentException.class;
    private static final Class<IllegalStateException> STATE = IllegalStateException.class;
    private static final Class<IndexOutOfBoundsException> INDEX = IndexOutOfBoundsException.class;

    private static final Sentences s = new Sentences();

    private TermsTest() {
    }

    public static void main(String[] args) {
        codes();
        keys();
        locks();
        wear();
        reasons();
        reasonsForNotches();
        prices();
        most();
        settings();
        s.end();
    }

    private static void due(String what, long got, long want) {
        s.check.due(what, got, want);
    }

    private static int c(String depths) {
        return Fixtures.c(depths);
    }

    // ---- what the tests hold the program against: codes as four digits

    private static int depth(int code, int notch) {
        return Fixtures.depths(code).charAt(notch) - '0';
    }

    private static int level(int code) {
        return depth(code, 0) + depth(code, 1) + depth(code, 2) + depth(code, 3);
    }

    private static boolean under(int code, int other) {
        boolean deeper = false;
        for (int notch = 0; notch < 4; notch++) {
            deeper = deeper || depth(code, notch) > depth(other, notch);
        }
        return code != other && !deeper;
    }

    private static int reasonBeside(int code, int key) {
        return code == key ? 3 : under(code, key) ? 4 : under(key, code) ? 5 : 0;
    }

    private static boolean sound(int code, int step) {
        boolean sound = true;
        for (int notch = 1; notch < 4; notch++) {
            sound = sound && Math.abs(depth(code, notch) - depth(code, notch - 1)) <= step;
        }
        return sound;
    }

    // ---- the sentences

    private static void codes() {
        s.section("Codes");
        s.holds("A key has 4 notches, numbered from 0 at the bow, each with a depth from 0 to 2", TermsTest::notches);
        s.holds("27 times the depth of the notch 0, 9 times that of the notch 1, 3 times that of the notch 2, and "
                + "that of the notch 3, together: 0 to 80", TermsTest::weights);
        s.holds("The level of a code is the sum of its four depths, 0 to 8", () -> {
            NotchedKeys x = new NotchedKeys();
            for (int code = 0; code <= 80; code++) {
                due("level of " + Fixtures.depths(code), x.code(code, 0), level(code));
            }
            due("the least", x.code(0, 0), 0);
            due("the greatest", x.code(80, 0), 8);
        });
        s.holds("A code lies under another one if they are unlike, and none of its notches is deeper",
                TermsTest::allPairs);
        s.holds("the other one lies over it then", () -> {
            NotchedKeys x = Fixtures.keys("0111", "0112", "0111");
            due("over 0111, not the one that is alike", x.key(0, 7), 2);
            due("under 0111, not the one that is alike", x.key(0, 8), 0);
            due("under 0112", x.key(1, 8), 1 + 4);
            due("over 0112", x.key(1, 7), 0);
        });
        s.holds("A code is sound if no two notches side by side differ in depth by more than setting 0", () -> {
            NotchedKeys x = new NotchedKeys();
            for (int step = 2; step >= 1; step--) {
                x.set(0, step);
                for (int code = 0; code <= 80; code++) {
                    due(Fixtures.depths(code) + " by " + step, x.code(code, 1), sound(code, step) ? 1 : 0);
                }
            }
            due("the notches 0 and 3 are not side by side", x.code(c("0112"), 1), 1);
        });
    }

    private static void notches() {
        NotchedKeys x = new NotchedKeys();
        x.cut(0, 0);
        for (int notch = 0; notch <= 3; notch++) {
            due("depth 0 can be cut", x.why(0, notch), 0);
            x.deepen(0, notch);
            due("depth 1 can be cut", x.why(0, notch), 0);
            x.deepen(0, notch);
            due("depth 2 can not be cut", x.why(0, notch), 6);
        }
        due("all notches", x.key(0, 0), 80);
    }

    private static void weights() {
        int[] weights = {27, 9, 3, 1};
        for (int notch = 0; notch <= 3; notch++) {
            NotchedKeys x = new NotchedKeys();
            x.cut(0, 0);
            due("notch " + notch + " 1 deep", x.deepen(0, notch), weights[notch]);
            due("notch " + notch + " 2 deep", x.deepen(0, notch), 2 * weights[notch]);
        }
    }

    private static void allPairs() {
        for (int key = 0; key <= 80; key++) {
            NotchedKeys x = new NotchedKeys();
            x.cut(key, 0);
            for (int code = 0; code <= 80; code++) {
                due(Fixtures.depths(code) + " beside " + Fixtures.depths(key), x.code(code, 2),
                        reasonBeside(code, key));
            }
        }
    }

    private static void keys() {
        s.isTestedElsewhere("Keys, owners");
        s.holds("There are at most 12 keys, numbered from 0 in the order in which they came", () -> {
            NotchedKeys x = new NotchedKeys();
            for (int i = 0; i < 12; i++) {
                due("key", x.cut(Fixtures.LEVEL_4[i], 0), i);
            }
            for (int i = 0; i < 12; i++) {
                due("code of key " + i, x.key(i, 0), Fixtures.LEVEL_4[i]);
            }
            s.twins.refuses("a key 12", Fixtures::twelve, y -> y.cut(Fixtures.LEVEL_4[12], 0), STATE);
        });
        s.holds("when one goes, the numbers of those behind it become 1 less", () -> {
            for (int gone = 0; gone < 12; gone++) {
                NotchedKeys x = Fixtures.twelve();
                x.retire(gone);
                for (int i = 0; i < 11; i++) {
                    due("key " + i + " without " + gone, x.key(i, 0), Fixtures.LEVEL_4[i < gone ? i : i + 1]);
                    due("its owner", x.key(i, 4), (i < gone ? i : i + 1) % 4);
                }
                due("the next key", x.cut(Fixtures.LEVEL_4[12], 0), 11);
            }
        });
        s.holds("A key has a code, an owner, 0 to 3, and it is lost or not", () -> {
            NotchedKeys x = Fixtures.twelve();
            for (int owner = 0; owner <= 3; owner++) {
                due("owner", x.key(owner, 4), owner);
            }
            due("not lost at first", x.key(11, 5), 0);
            x.lose(11);
            due("lost", x.key(11, 5), 1);
        });
        s.holds("the bit k stands for the number k", () -> {
            NotchedKeys x = Fixtures.full();
            due("twelve keys", x.lock(0, 2), (1 << 12) - 1);
            due("six locks", x.key(0, 6), (1 << 6) - 1);
            due("four persons", x.lock(5, 5), (1 << 4) - 1);
            due("the keys of the last person", x.person(3, 0), (1 << 3) + (1 << 7) + (1 << 11));
            x.ward(5, Fixtures.LEVEL_4[11]);
            due("the last key", x.lock(5, 2), 1 << 11);
            due("the last person", x.lock(5, 5), 1 << 3);
        });
        s.holds("Two keys are crossed if their codes are alike, or one of them lies under the other", () -> {
            due("alike", Fixtures.keys("0112", "0112").count(3), 1);
            due("under", Fixtures.keys("0012", "0112").count(3), 1);
            due("over", Fixtures.keys("0112", "0012").count(3), 1);
            due("apart by two notches", Fixtures.keys("0112", "0121").count(3), 0);
            due("apart, of unlike levels", Fixtures.keys("0112", "1111").count(3), 0);
            due("one key", Fixtures.keys("0112").count(3), 0);
        });
    }

    private static void locks() {
        s.section("Locks");
        s.holds("There are 6 places for locks, numbered from 0; at a place there is a lock, or none", () -> {
            NotchedKeys x = new NotchedKeys();
            for (int place = 0; place < 6; place++) {
                due("no lock at first", x.lock(place, 0), -1);
                due("locks before", x.count(2), place);
                due("a lock comes", x.ward(place, 7), -1);
                due("a lock", x.lock(place, 0), 7);
            }
            s.twins.refuses("place 6", Fixtures::fresh, y -> y.lock(6, 0), INDEX);
        });
        s.holds("A lock has a ward, and perhaps a guest ward; each is a code", () -> {
            NotchedKeys x = new NotchedKeys();
            x.ward(0, 80);
            due("no guest ward", x.lock(0, 1), -1);
            x.guest(0, 0);
            due("the guest ward 0", x.lock(0, 1), 0);
            x.guest(0, 80);
            due("the guest ward 80", x.lock(0, 1), 80);
            x.ward(0, 0);
            due("the ward 0", x.lock(0, 0), 0);
        });
        s.holds("A key opens a lock if its code is a ward of the lock, or lies over one", TermsTest::opening);
        s.holds("A key that is not lost can be tried in a lock", () -> {
            NotchedKeys x = Fixtures.full();
            x.lose(11);
            s.check.due("lost", Check.answer(() -> x.turn(11, 5)), "IllegalStateException");
            x.find(11);
            due("found", x.turn(11, 5), 1);
        });
        s.holds("this is a use of the key, of its owner and of the lock", () -> {
            NotchedKeys x = Fixtures.full();
            x.turn(7, 2);
            for (int k = 0; k < 12; k++) {
                due("uses of key " + k, x.key(k, 3), k == 7 ? 1 : 0);
            }
            for (int person = 0; person < 4; person++) {
                due("uses of person " + person, x.person(person, 2), person == 3 ? 1 : 0);
            }
            for (int place = 0; place < 6; place++) {
                due("uses of lock " + place, x.lock(place, 3), place == 2 ? 1 : 0);
                due("failed tries of lock " + place, x.lock(place, 4), 0);
            }
            due("uses", x.count(5), 1);
            due("failed tries", x.count(6), 0);
        });
        s.holds("otherwise it is a failed try of the lock", () -> {
            NotchedKeys x = Fixtures.full();
            x.ward(2, 80);
            x.turn(7, 2);
            for (int place = 0; place < 6; place++) {
                due("failed tries of lock " + place, x.lock(place, 4), place == 2 ? 1 : 0);
                due("uses of lock " + place, x.lock(place, 3), 0);
            }
            due("uses of the key", x.key(7, 3), 0);
            due("uses of the person", x.person(3, 2), 0);
            due("uses", x.count(5), 0);
            due("failed tries", x.count(6), 1);
        });
    }

    private static void opening() {
        int[] tried = {0, 80, c("1111"), c("0112"), c("2010"), c("0200")};
        for (int code : tried) {
            NotchedKeys x = new NotchedKeys();
            x.cut(code, 0);
            for (int ward = 0; ward <= 80; ward++) {
                x.ward(0, ward);
                int due = code == ward || under(ward, code) ? 1 : 0;
                due("key " + code + " in the ward " + ward, x.lock(0, 2), due);
            }
            x.ward(0, 80);
            for (int guest = 0; guest <= 80; guest++) {
                x.guest(0, guest);
                int due = code == 80 || code == guest || under(guest, code) ? 1 : 0;
                due("key " + code + " in the guest ward " + guest, x.lock(0, 2), due);
            }
        }
    }

    private static void wear() {
        s.holds("When the uses of a key are a multiple of setting 2 then", () -> {
            for (int every = 1; every <= 9; every++) {
                NotchedKeys x = keyInLock(0, every);
                for (int use = 1; use <= 80; use++) {
                    x.turn(0, 0);
                    int times = Math.min(8, use / every);
                    due("worn behind " + use + " uses by " + every, x.key(0, 9), times);
                    due("its level", x.key(0, 1), times);
                }
            }
        });
        s.holds("and its shallowest notch is less than 2 deep, it is worn by this use", () -> {
            NotchedKeys x = keyInLock(80, 1);
            due("it opens", x.turn(0, 0), 1);
            due("but is not worn", x.key(0, 9) + x.count(7), 0);
            due("its code", x.key(0, 0), 80);
            NotchedKeys y = keyInLock(c("2212"), 1);
            y.turn(0, 0);
            due("a notch 1 deep is worn", y.key(0, 0), 80);
            due("how often", y.key(0, 9), 1);
            y.turn(0, 0);
            due("then no more", y.key(0, 9), 1);
        });
        s.holds("that notch, of several the one with the least number, becomes 1 deeper", () -> {
            for (int code = 0; code < 80; code++) {
                NotchedKeys x = keyInLock(code, 1);
                x.turn(0, 0);
                due("worn from " + Fixtures.depths(code), x.key(0, 0), wornOnce(code));
            }
        });
        s.holds("Whatever its code is then, sound or not", () -> {
            NotchedKeys x = keyInLock(c("2200"), 1);
            x.set(0, 1);
            x.turn(0, 0);
            due("2210 is sound but 2200 was not", x.key(0, 0), c("2210"));
            NotchedKeys y = keyInLock(c("1110"), 1);
            y.set(0, 1);
            y.turn(0, 0);
            y.turn(0, 0);
            due("2111", y.key(0, 0), c("2111"));
            NotchedKeys z = keyInLock(c("0022"), 1);
            z.set(0, 1);
            z.turn(0, 0);
            due("1022 is not sound", z.key(0, 0), c("1022"));
            due("not sound", z.code(c("1022"), 1), 0);
        });
        s.holds("With setting 2 as 0 no key is ever worn", () -> {
            NotchedKeys x = keyInLock(0, 0);
            for (int use = 1; use <= 100; use++) {
                x.turn(0, 0);
            }
            due("uses", x.key(0, 3), 100);
            due("code", x.key(0, 0), 0);
            due("worn", x.key(0, 9) + x.count(7), 0);
        });
    }

    private static NotchedKeys keyInLock(int code, int every) {
        NotchedKeys x = new NotchedKeys();
        x.cut(code, 0);
        x.ward(0, 0);
        x.set(2, every);
        return x;
    }

    private static int wornOnce(int code) {
        String depths = Fixtures.depths(code);
        int first = depths.indexOf('0') >= 0 ? depths.indexOf('0') : depths.indexOf('1');
        int[] weights = {27, 9, 3, 1};
        return code + weights[first];
    }

    private static void reasons() {
        s.section("Why a key can not be cut");
        s.holds("A key can not be cut with a code for the first of these reasons that is so", () -> {
            NotchedKeys x = Fixtures.twelve();
            x.set(0, 1);
            due("1 before 2 and 3", x.code(c("0022"), 2), 1);
            due("1 before 2 and 4", x.code(c("0020"), 2), 1);
            due("1 before 2 and 5", x.code(c("0222"), 2), 1);
            due("2 before 3", x.code(c("0112"), 2), 2);
            due("2 before 4", x.code(c("0111"), 2), 2);
            due("2 before 5", x.code(c("1112"), 2), 2);
            NotchedKeys y = Fixtures.keys("0001", "0011", "0111", "0112");
            due("3 before 4 and 5", y.code(c("0011"), 2), 3);
            due("3 of the last key", y.code(c("0112"), 2), 3);
            due("3 of the first key", y.code(c("0001"), 2), 3);
            NotchedKeys z = Fixtures.keys("0001", "0111");
            due("4 by a late key before 5 by an early one", z.code(c("0011"), 2), 4);
            NotchedKeys w = Fixtures.keys("0111", "0001");
            due("4 by an early key before 5 by a late one", w.code(c("0011"), 2), 4);
        });
        s.holds("2: there are 12 keys", () -> {
            NotchedKeys x = Fixtures.twelve();
            due("twelve", x.code(c("1111"), 2), 2);
            x.retire(5);
            due("eleven", x.code(Fixtures.LEVEL_4[12], 2), 0);
        });
        s.holds("3: some key has this code", () -> due("alike", Fixtures.one().code(c("0112"), 2), 3));
        s.holds("4: it lies under the code of some key", () -> due("under", Fixtures.one().code(c("0111"), 2), 4));
        s.holds("5: it lies over the code of some key", () -> due("over", Fixtures.one().code(c("0122"), 2), 5));
        s.holds("In the reasons 3 to 5 keys that are lost count only with setting 3 as 1", () -> {
            String[] codes = {"0112", "0111", "0122"};
            for (int i = 0; i < 3; i++) {
                NotchedKeys x = Fixtures.one();
                x.lose(0);
                due("lost, setting 3 as 1", x.code(c(codes[i]), 2), 3 + i);
                x.set(3, 0);
                due("lost, setting 3 as 0", x.code(c(codes[i]), 2), 0);
                x.find(0);
                due("not lost, setting 3 as 0", x.code(c(codes[i]), 2), 3 + i);
            }
            NotchedKeys x = Fixtures.twelveLost();
            x.set(3, 0);
            due("in the reason 2 they count", x.code(c("1111"), 2), 2);
            x.set(0, 1);
            due("the reason 1", x.code(c("0200"), 2), 1);
        });
    }

    private static void reasonsForNotches() {
        s.holds("1: the code is not sound", () -> {
            NotchedKeys x = Fixtures.keys("0112");
            x.set(0, 1);
            due("0122 is sound", x.why(0, 2), 0);
            due("0212 is not", x.why(0, 1), 1);
            due("and can not be cut", x.code(c("0212"), 2), 1);
        });
        s.holds("6: it is 2 deep", () -> {
            NotchedKeys x = Fixtures.keys("2100");
            due("2 deep", x.why(0, 0), 6);
            due("1 deep", x.why(0, 1), 0);
            due("0 deep", x.why(0, 2), 0);
            NotchedKeys y = Fixtures.keys("0002");
            y.set(0, 1);
            due("6, though 0002 is not sound itself", y.why(0, 3), 6);
            due("6 of the last notch with the code 80", Fixtures.keys("2222").why(0, 3), 6);
            due("6 of the first notch with the code 80", Fixtures.keys("2222").why(0, 0), 6);
        });
        s.holds("1, 3, 4, 5 as above, for the code that the key would have then, and the other keys", () -> {
            due("alike", Fixtures.keys("0111", "0112").why(0, 3), 3);
            due("under", Fixtures.keys("0101", "0112").why(0, 2), 4);
            due("over", Fixtures.keys("0111", "0002").why(0, 3), 5);
            due("over its own code alone", Fixtures.keys("0111", "2000").why(0, 3), 0);
            due("3 before 4 and 5", Fixtures.keys("0011", "0111", "1111", "0100").why(0, 1), 3);
            due("4 before 5", Fixtures.keys("0011", "0100", "1111").why(0, 1), 4);
            NotchedKeys x = Fixtures.keys("0111", "0212");
            x.set(0, 1);
            due("1 before 4", x.why(0, 1), 1);
            NotchedKeys y = Fixtures.keys("0111", "0112");
            y.lose(1);
            due("a lost other key counts", y.why(0, 3), 3);
            y.set(3, 0);
            due("with setting 3 as 0 not", y.why(0, 3), 0);
            NotchedKeys z = Fixtures.twelveLost();
            z.set(3, 0);
            due("twelve keys are no reason for a notch", z.why(0, 0), 0);
        });
        s.holds("A code is free if a key could be cut with it now, or could be but for the reason 2", () -> {
            NotchedKeys x = Fixtures.twelve();
            due("but for the reason 2", x.code(Fixtures.LEVEL_4[12], 5), 1);
            due("the reasons 2 and 3", x.code(Fixtures.LEVEL_4[0], 5), 0);
            due("the reasons 2 and 4", x.code(0, 5), 0);
            due("the reasons 2 and 5", x.code(80, 5), 0);
            x.set(0, 1);
            due("the reasons 1 and 2", x.code(c("2200"), 5), 0);
            NotchedKeys y = Fixtures.one();
            due("now", y.code(c("1111"), 5), 1);
            due("the reason 3", y.code(c("0112"), 5), 0);
            due("the reason 4", y.code(c("0111"), 5), 0);
            due("the reason 5", y.code(c("0122"), 5), 0);
        });
    }

    private static void prices() {
        s.holds("To cut a key costs setting 1 pence for each level of its code", () -> {
            for (int price = 1; price <= 9; price++) {
                NotchedKeys x = new NotchedKeys();
                x.set(1, price);
                x.cut(0, 0);
                due("a key of level 0", x.count(4), 0);
                x.retire(0);
                x.cut(80, 0);
                due("a key of level 8 at " + price, x.count(4), 8 * price);
            }
        });
        s.holds("to cut a notch deeper costs setting 1 pence", () -> {
            for (int price = 1; price <= 9; price++) {
                NotchedKeys x = new NotchedKeys();
                x.set(1, price);
                x.cut(0, 0);
                x.deepen(0, 3);
                due("a notch at " + price, x.count(4), price);
                x.deepen(0, 3);
                due("two notches at " + price, x.count(4), 2 * price);
            }
        });
    }

    // ---- the most keys that could come

    /** Keys behind which few enough codes are free for a look at each set of them. */
    private static final String[][] FEW_FREE = {
        {"1000", "0002", "0201"}, {"2022", "2211", "0102"}, {"0011", "0220", "0002", "2210"},
        {"2010", "0201", "1210", "0112", "1002", "1101", "2200"}, {"2022", "0211", "2112", "0220", "1120"},
        {"0120", "1020", "2010", "2201", "0211", "2002", "1202"}, {"1101", "2011", "0200", "0002", "1120"},
        {"2101", "1200", "0012", "1120", "2020", "2011", "0220"}, {"0021", "0212", "1200", "2100", "2012"},
        {"0100", "2001", "1010"}, {"2112", "0022", "2211", "1220", "2202"}, {"0001", "0010", "0100"}
    };

    private static void most() {
        s.section("The most keys that could come");
        s.holds("A chain is a row of free codes, each of which lies under the next one", () -> {
            for (String[] row : FEW_FREE) {
                NotchedKeys x = Fixtures.keys(row);
                int[] codes = free(x);
                due("fewest chains of " + codes.length, x.most(0), fewestChains(codes));
            }
            due("no code, no chain", Fixtures.keys("0000").most(0), 0);
        });
        s.holds("Free codes of which none lies under another one are apart", () -> {
            NotchedKeys x = Fixtures.keys("0112", "0200");
            for (int i = 0; i < x.most(1); i++) {
                due("free", x.code(x.pick(i), 5), 1);
                for (int j = 0; j < i; j++) {
                    s.check.dueTrue("apart", reasonBeside(x.pick(i), x.pick(j)) == 0);
                }
            }
        });
        s.holds("are as many as the fewest chains that have each free code in one of them", () -> {
            NotchedKeys x = new NotchedKeys();
            due("all codes", x.most(0), 19);
            due("all codes", x.most(1), 19);
            for (int i = 0; i < 12; i++) {
                x.cut(Fixtures.LEVEL_4[i], 0);
                due("behind " + (i + 1) + " keys", x.most(0), x.most(1));
            }
            due("behind twelve keys", x.most(1), 7);
        });
        s.holds("each set is written as a row of rising codes", () -> {
            NotchedKeys x = Fixtures.keys("1111");
            for (int i = 1; i < x.most(1); i++) {
                s.check.dueTrue("rising at " + i, x.pick(i - 1) < x.pick(i));
            }
        });
        s.holds("the chosen one has the least first code, of several the least second code, and so on", () -> {
            for (String[] row : FEW_FREE) {
                isChosen(Fixtures.keys(row));
            }
        });
    }

    private static int[] free(NotchedKeys x) {
        int[] free = new int[x.count(10)];
        int found = 0;
        for (int code = 0; code <= 80; code++) {
            if (x.code(code, 5) == 1) {
                free[found] = code;
                found++;
            }
        }
        s.check.dueTrue("few enough for a look at each set: " + found, found <= 13);
        return free;
    }

    /** Whether any two codes of the set are of the kind: apart, or one under the other. */
    private static boolean isAll(int[] codes, int set, boolean apart) {
        for (int i = 0; i < codes.length; i++) {
            for (int j = 0; j < i; j++) {
                if ((set >> i & set >> j & 1) == 1 && (reasonBeside(codes[i], codes[j]) == 0) != apart) {
                    return false;
                }
            }
        }
        return true;
    }

    /** For each set of the codes: one chain with its lowest code, and the fewest chains of what is left. */
    private static int fewestChains(int[] codes) {
        int[] fewest = new int[1 << codes.length];
        for (int set = 1; set < fewest.length; set++) {
            fewest[set] = codes.length;
            for (int chain = set; chain > 0; chain = (chain - 1) & set) {
                boolean lowest = (chain & set & -set) != 0;
                if (lowest && fewest[set ^ chain] + 1 < fewest[set] && isAll(codes, chain, false)) {
                    fewest[set] = fewest[set ^ chain] + 1;
                }
            }
        }
        return fewest[fewest.length - 1];
    }

    /** Of two sets of one size that with the lower code at the first difference is chosen. */
    private static void isChosen(NotchedKeys x) {
        int[] codes = free(x);
        int best = 0;
        for (int set = 0; set < 1 << codes.length; set++) {
            int more = Integer.bitCount(set) - Integer.bitCount(best);
            int differs = set ^ best;
            boolean lower = (differs & -differs & set) != 0;
            if ((more > 0 || more == 0 && lower) && isAll(codes, set, true)) {
                best = set;
            }
        }
        due("how many of " + codes.length, x.most(1), Integer.bitCount(best));
        int rank = 0;
        for (int i = 0; i < codes.length; i++) {
            if ((best >> i & 1) == 1) {
                due("rank " + rank, x.pick(rank), codes[i]);
                rank++;
            }
        }
        due("behind the last rank", x.pick(rank), -1);
    }

    // ---- settings

    private static void settings() {
        s.section("Settings");
        settingRange("0: by how much notches side by side may differ, 1 to 2, at first 2", 0, 1, 2, 2);
        settingRange("1: pence for a level, 1 to 9, at first 2", 1, 1, 9, 2);
        settingRange("2: uses until a key is worn, 0 to 9, at first 4", 2, 0, 9, 4);
        settingRange("3: whether lost keys count (1) or not (0), at first 1", 3, 0, 1, 1);
    }

    private static void settingRange(String quote, int setting, int least, int greatest, int first) {
        s.holds(quote, () -> {
            NotchedKeys x = new NotchedKeys();
            due("at first", x.setting(setting), first);
            int before = first;
            for (int value = least; value <= greatest; value++) {
                due("before " + value, x.set(setting, value), before);
                due("then", x.setting(setting), value);
                before = value;
            }
            s.twins.range("setting " + setting, Fixtures::busy, (y, value) -> y.set(setting, value), least, greatest,
                    ARGUMENT);
        });
    }
}
