/** The wrong arguments that several promises refuse in the same words. */
final class WrongArguments extends Theatres {
    interface Call {
        Object answer(CoatHooks x, int argument);
    }

    private static final String NO_SUCH_HOOK = "Throws IndexOutOfBoundsException if there is no such hook";
    private static final String NO_NUMBER = "Throws IllegalArgumentException if number is not 0 to 9999";

    private WrongArguments() {
    }

    static void hookTooSmall(int promise, Call call) {
        CoatHooks x = full(8);
        Sentence s = new Sentence(promise, NO_SUCH_HOOK);
        s.refuses(INDEX, "hook", hook -> call.answer(x, hook), -1, -8, Integer.MIN_VALUE);
        answers(s, call, x, 0);
    }

    static void hookTooLarge(int promise, Call call) {
        CoatHooks x = full(8);
        Sentence s = new Sentence(promise, NO_SUCH_HOOK);
        s.refuses(INDEX, "hook", hook -> call.answer(x, hook), 8, 9, 39, 40, Integer.MAX_VALUE);
        answers(s, call, x, 7);
    }

    static void hookOfLeastAndMost(int promise, Call call) {
        CoatHooks least = full(3);
        CoatHooks most = full(40);
        Sentence s = new Sentence(promise, NO_SUCH_HOOK);
        s.refuses(INDEX, "with 3 hooks, the hook", hook -> call.answer(least, hook), -1, 3, 7, 39);
        answers(s, call, least, 2);
        s.refuses(INDEX, "with 40 hooks, the hook", hook -> call.answer(most, hook), -1, 40);
        answers(s, call, most, 39);
    }

    static void numberTooSmall(int promise, Call call) {
        CoatHooks x = with(8, 0, 0);
        Sentence s = new Sentence(promise, NO_NUMBER);
        s.refuses(ARGUMENT, "number", n -> call.answer(x, n), -1, -8, Integer.MIN_VALUE);
        answers(s, call, x, 0);
    }

    static void numberTooLarge(int promise, Call call) {
        CoatHooks x = with(8, 0, 9999);
        Sentence s = new Sentence(promise, NO_NUMBER);
        s.refuses(ARGUMENT, "number", n -> call.answer(x, n), 10000, Integer.MAX_VALUE);
        answers(s, call, x, 9999);
    }

    private static void answers(Sentence s, Call call, CoatHooks x, int argument) {
        s.due("a number is answered for " + argument, () -> call.answer(x, argument) instanceof Number, true);
    }
}
