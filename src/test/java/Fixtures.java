/** Objects that the tests by sentences begin with, and short ways to codes and texts. */
final class Fixtures {
    /** The 19 codes of level 4, all apart: more than there can be keys. */
    static final int[] LEVEL_4 = {
        8, 14, 16, 20, 22, 24, 32, 34, 38, 40, 42, 46, 48, 56, 58, 60, 64, 66, 72
    };

    private Fixtures() {
    }

    /** A code by its depths as digits. */
    static int c(String depths) {
        return Integer.parseInt(depths, 3);
    }

    static String depths(int code) {
        String digits = Integer.toString(code, 3);
        return "0".repeat(4 - digits.length()) + digits;
    }

    static NotchedKeys write(NotchedKeys x, String text) {
        for (int i = 0; i < text.length(); i++) {
            x.append(text.charAt(i));
        }
        return x;
    }

    static int obey(NotchedKeys x, String text) {
        x.clearBuffer();
        return write(x, text).obey();
    }

    static NotchedKeys fresh() {
        return new NotchedKeys();
    }

    static NotchedKeys one() {
        return keys("0112");
    }

    static NotchedKeys twelve() {
        NotchedKeys x = new NotchedKeys();
        for (int i = 0; i < 12; i++) {
            x.cut(LEVEL_4[i], i % 4);
        }
        return x;
    }

    static NotchedKeys twelveLost() {
        NotchedKeys x = twelve();
        for (int i = 0; i < 12; i++) {
            x.lose(i);
        }
        return x;
    }

    /**
     * Keys with just these codes, crossed or not, all of the person 0 and none lost; at the end lost
     * keys count, as at first.
     */
    static NotchedKeys keys(String... codes) {
        NotchedKeys x = new NotchedKeys();
        x.set(3, 0);
        for (int k = 0; k < codes.length; k++) {
            x.cut(c(codes[k]), 0);
            x.lose(k);
        }
        for (int k = 0; k < codes.length; k++) {
            x.find(k);
        }
        x.set(3, 1);
        return x;
    }

    static NotchedKeys sixLocks() {
        NotchedKeys x = new NotchedKeys();
        for (int place = 0; place < 6; place++) {
            x.ward(place, 0);
        }
        return x;
    }

    /** Twelve keys and six locks that each of them opens. */
    static NotchedKeys full() {
        NotchedKeys x = twelve();
        for (int place = 0; place < 6; place++) {
            x.ward(place, 0);
        }
        return x;
    }

    /** Something of everything: uses, wear, a lost key, a stop, a snapshot, a buffer, six saved states. */
    static NotchedKeys busy() {
        NotchedKeys x = new NotchedKeys();
        x.ward(0, 0);
        x.ward(3, 80);
        x.guest(3, c("0011"));
        x.cut(c("0112"), 0);
        x.cut(c("1020"), 3);
        x.keep();
        x.cut(c("2001"), 1);
        x.turn(0, 0);
        x.turn(1, 3);
        x.set(2, 1);
        x.turn(2, 0);
        x.set(2, 4);
        x.lose(1);
        x.set(1, 7);
        obey(x, "t0,3;f0;l2");
        return write(x, "d0,3;c11");
    }
}
