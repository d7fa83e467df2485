/** The digest of an object as its looks tell it. */
final class Told {
    private Told() {
    }

    private static long mixed(long hash, long... values) {
        long mixed = hash;
        for (long value : values) {
            mixed = 31 * mixed + value;
        }
        return mixed;
    }

    /** The digest by the list of the promise 36; Model.java works it out without the looks. */
    static long digest(NotchedKeys x, boolean hasSnapshot, String buffer) {
        long hash = 3613;
        for (int what = 0; what <= 11; what++) {
            hash = mixed(hash, x.count(what));
        }
        hash = mixed(hash, x.setting(0), x.setting(1), x.setting(2), x.setting(3));
        for (int k = 0; k < x.count(0); k++) {
            for (int what = 0; what <= 9; what++) {
                hash = mixed(hash, x.key(k, what));
            }
            hash = mixed(hash, x.why(k, 0), x.why(k, 1), x.why(k, 2), x.why(k, 3), x.crossedIn(k));
        }
        for (int place = 0; place < 6; place++) {
            for (int what = 0; what <= 5; what++) {
                hash = mixed(hash, x.lock(place, what));
            }
        }
        for (int person = 0; person < 4; person++) {
            hash = mixed(hash, x.person(person, 0), x.person(person, 1), x.person(person, 2));
        }
        for (int code = 0; code < 81; code++) {
            hash = mixed(hash, x.code(code, 2), x.code(code, 3), x.code(code, 4), x.code(code, 5));
        }
        for (int level = 0; level < 9; level++) {
            hash = mixed(hash, x.level(level, 0), x.level(level, 1), x.level(level, 2), x.level(level, 3));
        }
        hash = mixed(hash, x.stopped(0), x.stopped(1), x.most(0), x.most(1), x.pick(0), x.pick(1), x.pick(2));
        hash = mixed(hash, Double.doubleToLongBits(x.freeShare()), Float.floatToIntBits(x.meanLevel()));
        hash = mixed(hash, hasSnapshot ? 1 : 0, buffer.length());
        for (int i = 0; i < buffer.length(); i++) {
            hash = mixed(hash, buffer.charAt(i));
        }
        return hash;
    }
}
