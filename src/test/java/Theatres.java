/** What tests share: theatres in the states with which they begin, and what is on all their hooks. */
class Theatres {
    static final Class<?> ARGUMENT = IllegalArgumentException.class;
    static final Class<?> STATE = IllegalStateException.class;
    static final Class<?> INDEX = IndexOutOfBoundsException.class;

    /** A theatre with so many hooks and this way, in which these coats were hung, of weights 1, 2, .. */
    static CoatHooks with(int hooks, int way, int... numbers) {
        CoatHooks x = new CoatHooks();
        x.rehang(hooks, way);
        for (int i = 0; i < numbers.length; i++) {
            x.hang(numbers[i], i + 1);
        }
        return x;
    }

    static CoatHooks take(CoatHooks x, int... numbers) {
        for (int number : numbers) {
            x.take(number);
        }
        return x;
    }

    /** So many hooks, each of which has the coat of its own number. */
    static CoatHooks full(int hooks) {
        return with(hooks, 0, upTo(hooks));
    }

    /** So many hooks, each of which has a ticket. */
    static CoatHooks allTickets(int hooks) {
        return take(full(hooks), upTo(hooks));
    }

    /** 40 coats with 40 hooks, in a row, that all begin at 0: on the hook k hangs 40 * k, after k + 1 looks. */
    static CoatHooks longestWalks() {
        return with(40, 0, multiples(40, 40));
    }

    /**
     * By triangles an usher looks for 0, 8 and 16 on the hooks 0, 1, 3, ..; the coat 16 hangs on 3,
     * but the ticket on 1, which 8 has left, is swept: the usher stops there, and does not find it.
     */
    static CoatHooks hidden() {
        CoatHooks x = take(with(8, 1, 0, 8, 16), 8);
        x.sweep();
        return x;
    }

    /**
     * By triangles with 3 hooks an usher looks for 0, 3 and 6 on the hooks 0, 1 and 0: those of the
     * coats 0 and 3. The hook 2, which is free, is not looked at.
     */
    static CoatHooks unseenHook() {
        return with(3, 1, 0, 3);
    }

    static int[] upTo(int count) {
        return multiples(1, count);
    }

    static int[] multiples(int of, int count) {
        int[] all = new int[count];
        for (int i = 0; i < count; i++) {
            all[i] = i * of;
        }
        return all;
    }

    static int[] coatsOf(CoatHooks x) {
        return onEach(x, hook -> x.coatAt(hook));
    }

    static int[] weightsOf(CoatHooks x) {
        return onEach(x, hook -> x.weightAt(hook));
    }

    static int[] statesOf(CoatHooks x) {
        return onEach(x, hook -> x.stateOf(hook));
    }

    static int[] rowsOf(CoatHooks x) {
        return onEach(x, hook -> x.rowAt(hook));
    }

    private interface OfHook {
        int answer(int hook);
    }

    private static int[] onEach(CoatHooks x, OfHook call) {
        int[] all = new int[x.hooks()];
        for (int hook = 0; hook < all.length; hook++) {
            all[hook] = call.answer(hook);
        }
        return all;
    }
}
