import java.util.List;
import java.util.function.ToIntFunction;

/** What the tests of boundary cases share; each case is told by the document's own words. */
abstract class Bounds {
    static final int INVALID = PrivateLinkRouting.INVALID_ARGUMENT;
    static final int ILLEGAL = PrivateLinkRouting.ILLEGAL_STATE;
    static final int NO_ROOM = PrivateLinkRouting.CAPACITY_EXCEEDED;
    static final int NONE = PrivateLinkRouting.NONE;

    private final Check check;
    private final Sentences sentences;
    private String sentence = "";

    Bounds(Check check, Sentences sentences) {
        this.check = check;
        this.sentences = sentences;
    }

    abstract void run();

    /** A call with one argument that is tried. */
    interface Call {
        int with(PrivateLinkRouting x, int value);
    }

    /** From here on, answers are due by this sentence of a promise; 0 is what stands outside of them. */
    final void says(int promise, String words) {
        sentences.quote(promise, words);
        sentence = promise + " '" + words + "': ";
    }

    final void due(String what, int got, int want) {
        check.due(sentence + what, got, want);
    }

    final void dueAll(String what, int[] got, int... want) {
        due(what + ", answers", got.length, want.length);
        for (int i = 0; i < got.length && i < want.length; i++) {
            due(what + ", answer " + i, got[i], want[i]);
        }
    }

    final void dueSame(String what, List<String> got, List<String> want) {
        due(what + ": as many answers", got.size(), want.size());
        for (int i = 0; i < got.size() && i < want.size(); i++) {
            if (!got.get(i).equals(want.get(i))) {
                due(what + ": " + got.get(i) + ", but due is " + want.get(i), 0, 1);
                return;
            }
        }
    }

    /** The call answers an error, and nothing that can be seen is changed by it. */
    final void refused(Scene scene, int error, String what, ToIntFunction<PrivateLinkRouting> call) {
        due(scene.name() + ", " + what, call.applyAsInt(scene.make()), error);
        unchanged(scene, what, call);
    }

    final void unchanged(Scene scene, String what, ToIntFunction<PrivateLinkRouting> call) {
        dueSame(scene.name() + " after " + what, Looks.atAll(Looks.after(scene::make, call::applyAsInt)), scene.seen());
    }

    final void taken(Scene scene, String what, ToIntFunction<PrivateLinkRouting> call) {
        int answer = call.applyAsInt(scene.make());
        due(scene.name() + ", " + what + " is taken", answer >= 0 || answer == NONE ? 1 : 0, 1);
    }

    /** The ends of the range are taken; what lies just outside, and as far outside as can be, is refused. */
    final void range(Scene scene, int low, int high, Call call) {
        for (int value : new int[] {low, high}) {
            taken(scene, "value " + value, x -> call.with(x, value));
        }
        for (int value : new int[] {Integer.MIN_VALUE, low - 1, high + 1, Integer.MAX_VALUE}) {
            refused(scene, INVALID, "value " + value, x -> call.with(x, value));
        }
    }
}
