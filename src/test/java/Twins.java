import java.util.function.Supplier;
import java.util.function.ToLongFunction;

/** Looks at what a call changes by an object beside another one that was made the same way. */
final class Twins {
    /** A call on an object with one number that is tried. */
    interface NumberCall {
        long run(NotchedKeys x, int number);
    }

    private final Check check;

    Twins(Check check) {
        this.check = check;
    }

    /** The call throws this, and all that the object tells then is as without the call. */
    void refuses(String what, Supplier<NotchedKeys> made, ToLongFunction<NotchedKeys> call,
            Class<? extends RuntimeException> want) {
        NotchedKeys x = made.get();
        check.due(what, Check.answer(() -> call.applyAsLong(x)), want.getSimpleName());
        check.due("all that is told behind " + what, trail(x), trail(made.get()));
    }

    /** The call answers, and all that the object tells then is as without the call. */
    void changesNothing(String what, Supplier<NotchedKeys> made, ToLongFunction<NotchedKeys> call) {
        NotchedKeys x = made.get();
        answers(what, x, call);
        check.due("all that is told behind " + what, trail(x), trail(made.get()));
    }

    /** Each number from the least to the greatest is taken, on an object of its own; others are refused. */
    void range(String what, Supplier<NotchedKeys> made, NumberCall call, int least, int greatest,
            Class<? extends RuntimeException> want) {
        for (int number = least; number <= greatest; number++) {
            int taken = number;
            answers(what + " " + taken, made.get(), x -> call.run(x, taken));
        }
        int[] outside = {
            least - 1, greatest + 1, Integer.MIN_VALUE, Integer.MAX_VALUE, least - 32, least + 256,
            least + 65536, greatest + 65536, Integer.MIN_VALUE + least, Integer.MIN_VALUE + greatest
        };
        for (int number : outside) {
            if (number < least || number > greatest) {
                refuses(what + " " + number, made, x -> call.run(x, number), want);
            }
        }
    }

    /**
     * The call saves the state from before it: undo() behind it leads to an object as one without the
     * call, but that of six saved states the oldest one is gone.
     */
    void undoable(String what, Supplier<NotchedKeys> made, ToLongFunction<NotchedKeys> call) {
        NotchedKeys x = made.get();
        NotchedKeys twin = made.get();
        int saved = x.count(11);
        if (!answers(what, x, call)) {
            return;
        }
        check.due("saved states behind " + what, x.count(11), Math.min(6, saved + 1));
        check.due("undo() behind " + what, Check.answer(x::undo), Integer.toString(Math.min(5, saved)));
        for (int left = x.count(11); left > 0; left--) {
            check.due("a saved state behind " + what, state(x), state(twin));
            x.undo();
            twin.undo();
        }
        check.due("the oldest state behind " + what, state(x), state(twin));
        check.due("goBack() behind " + what, Check.answer(x::goBack), Check.answer(twin::goBack));
        check.due("the snapshot behind " + what, state(x), state(twin));
    }

    private boolean answers(String what, NotchedKeys x, ToLongFunction<NotchedKeys> call) {
        String answer = Check.answer(() -> call.applyAsLong(x));
        boolean throwing = Character.isLetter(answer.charAt(0));
        check.due(what + " throws " + answer, Boolean.toString(throwing), "false");
        return !throwing;
    }

    /** The hash of the object, of each saved state and of the snapshot; the object is used up by it. */
    static String trail(NotchedKeys x) {
        StringBuilder told = new StringBuilder().append(x.digest());
        for (int i = 0; i < 6 && x.count(11) > 0; i++) {
            x.undo();
            told.append(' ').append(x.digest());
        }
        told.append(' ').append(Check.answer(x::goBack)).append(' ').append(x.digest());
        return told.toString();
    }

    /** What undo() restores. The hash is of no use for it, as it has how many states are saved. */
    static String state(NotchedKeys x) {
        return x.stopped(0) + " " + x.stopped(1) + " stopped " + stateButStop(x);
    }

    static String stateButStop(NotchedKeys x) {
        StringBuilder told = new StringBuilder();
        for (int what = 0; what <= 10; what++) {
            tell(told, x.count(what));
        }
        for (int setting = 0; setting <= 3; setting++) {
            tell(told, x.setting(setting));
        }
        for (int k = 0; k < x.count(0); k++) {
            for (int what = 0; what <= 9; what++) {
                tell(told, x.key(k, what));
            }
        }
        tellLocksAndPersons(told, x);
        return told.toString();
    }

    private static void tellLocksAndPersons(StringBuilder told, NotchedKeys x) {
        for (int place = 0; place <= 5; place++) {
            for (int what = 0; what <= 5; what++) {
                tell(told, x.lock(place, what));
            }
        }
        for (int person = 0; person <= 3; person++) {
            tell(told, x.person(person, 2));
        }
    }

    private static void tell(StringBuilder told, int number) {
        told.append(number).append(' ');
    }
}
