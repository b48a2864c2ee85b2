/**
 * Two registers made alike, of which one is asked what it must refuse: afterwards nothing may tell them apart, neither
 * now nor when the recorded states, the snapshot and the letter are brought out.
 */
final class Twins {
    interface Script {
        void on(Register x);
    }

    interface Call {
        long on(Register x);
    }

    static final Script EMPTY = x -> { };

    private Twins() {
    }

    /** The register holds a snapshot of day 0 and a letter besides what the script does. */
    static void refuse(Class<? extends RuntimeException> want, String what, Script script, Call call) {
        refuseBare(want, what, x -> {
            x.takeSnapshot();
            Calls.write(x, "t1;t2");
            script.on(x);
        }, call);
    }

    static void refuseBare(Class<? extends RuntimeException> want, String what, Script script, Call call) {
        Register asked = made(script);
        Checks.throwsJust(want, what, () -> call.on(asked));
        Checks.that(what + " left a trace, though it is refused", story(made(script)).equals(story(asked)));
    }

    static void take(String what, long want, Script script, Call call) {
        Register x = made(script);
        try {
            Checks.same(what, want, call.on(x));
        } catch (RuntimeException e) {
            Checks.that(what + " threw " + e.getClass() + ", due is " + want, false);
        }
    }

    static Register made(Script script) {
        Register x = new Register();
        script.on(x);
        return x;
    }

    /** Everything that a register tells now and in all the states to which it can go back. */
    private static String story(Register x) {
        StringBuilder story = new StringBuilder(Facts.of(x));
        while (x.recordedStates() > 0) {
            story.append("\nundo ").append(x.undo()).append(' ').append(Facts.of(x));
        }
        try {
            story.append("\nsnapshot ").append(x.restoreSnapshot()).append(' ').append(Facts.of(x));
        } catch (IllegalStateException e) {
            story.append("\nno snapshot");
        }
        if (x.letterError() < 0) {
            story.append("\nletter ").append(x.impossibleOrder());
            if (x.impossibleOrder() < 0) {
                story.append(' ').append(x.carryOut()).append(' ').append(Facts.of(x));
            }
        }
        return story.append("\nsigns ").append(x.clearLetter()).toString();
    }
}
