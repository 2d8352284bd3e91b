/**
 * Tells whether a call changes anything: of two objects that are made alike one gets the call, and then both are
 * looked at from one side. Each look takes two new objects, so that no object gets more than 512 calls.
 */
final class Twins {
    interface Maker {
        TandemExchange make();
    }

    interface Call {
        int on(TandemExchange x);
    }

    private static final int UNDOS = 15;
    private static final int TEXT = UNDOS + 1;
    private static final int LOADED = UNDOS + 2;
    private static final int FIRST_SLOT = UNDOS + 3;
    private static final int SECOND_SLOT = UNDOS + 4;

    private Twins() {
    }

    /** What the call has changed; an empty text if nothing. */
    static String difference(Maker maker, Call call) {
        for (int side = 0; side <= SECOND_SLOT; side++) {
            TandemExchange called = maker.make();
            answer(called, call);
            String seen = look(called, side);
            String due = look(maker.make(), side);
            if (!seen.equals(due)) {
                return "from the side " + side + " there is " + seen + ", due is " + due;
            }
        }
        return "";
    }

    static String answer(TandemExchange x, Call call) {
        try {
            return String.valueOf(call.on(x));
        } catch (RuntimeException e) {
            return e.getClass().getSimpleName();
        }
    }

    /** The sides 0 to 15 are the states behind so many calls of undo(). */
    private static String look(TandemExchange x, int side) {
        switch (side) {
            case TEXT: return text(x);
            case LOADED: return answer(x, y -> y.load()) + state(x);
            case FIRST_SLOT: return answer(x, y -> y.restore(0)) + state(x);
            case SECOND_SLOT: return answer(x, y -> y.restore(1)) + state(x);
            default: return undone(x, side) + state(x);
        }
    }

    private static String text(TandemExchange x) {
        return x.errorPosition() + " " + x.clearText();
    }

    private static String undone(TandemExchange x, int times) {
        StringBuilder answers = new StringBuilder();
        for (int i = 0; i < times; i++) {
            answers.append(answer(x, y -> y.undo())).append(' ');
        }
        return answers.toString();
    }

    /** All that about() and member() tell. */
    static String state(TandemExchange x) {
        StringBuilder numbers = new StringBuilder();
        for (int what = 0; what <= 6; what++) {
            numbers.append(' ').append(x.about(what));
        }
        for (int a = 0; a < x.about(0); a++) {
            numbers.append(';');
            for (int what = 0; what <= 10; what++) {
                numbers.append(' ').append(x.member(a, what));
            }
        }
        return numbers.toString();
    }
}
