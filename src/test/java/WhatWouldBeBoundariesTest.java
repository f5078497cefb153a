import java.math.BigInteger;

/** The boundary cases of the promises 24 to 28, the calls under 'what would be', each with a test of its own. */
public final class WhatWouldBeBoundariesTest extends Theatres {
    private static final int LEAST = Integer.MIN_VALUE;
    private static final int MOST = Integer.MAX_VALUE;

    private interface Call {
        Object answer(CoatHooks x);
    }

    private static CoatHooks[] theatres() {
        return new CoatHooks[] {allTickets(3), with(8, 0, 0, 8, 16, 24), with(8, 1, 0, 8, 16),
            take(with(11, 2, 0, 11, 20), 11), full(40)};
    }

    /** Whatever is asked next, the answer is as if that had not been asked. */
    private static void nothingIsChanged(Sentence s, String what, Call asked) {
        Call[] next = {x -> x.sweep(), x -> x.hooks(), x -> x.way(), x -> x.lookedAt(20, 5), x -> x.looksFor(20),
            x -> x.placeFor(20), x -> x.find(0), x -> x.rehang(40, 0), x -> x.bestWay(), x -> x.hooksWanted(4),
            x -> x.hooksWanted(9), x -> x.allLooks(), x -> x.rows(), x -> x.digest()};
        for (int i = 0; i < theatres().length; i++) {
            for (int k = 0; k < next.length; k++) {
                CoatHooks x = theatres()[i];
                Call call = next[k];
                asked.answer(x);
                s.due("the call " + k + " in the theatre " + i + " after " + what,
                    () -> call.answer(x), call.answer(theatres()[i]));
            }
        }
    }

    // ---- 24, looksWith

    static void p24TooFewHooks() {
        Sentence s = new Sentence(24, "Throws IllegalArgumentException if hooks is not 3 to 40");
        CoatHooks x = full(3);
        s.refuses(ARGUMENT, "hooks", h -> x.looksWith(h, 0), 2, 1, 0, -1, LEAST);
        s.due("the least", () -> x.looksWith(3, 0), 3);
    }

    static void p24TooManyHooks() {
        Sentence s = new Sentence(24, "Throws IllegalArgumentException if hooks is not 3 to 40");
        CoatHooks x = full(3);
        s.refuses(ARGUMENT, "hooks", h -> x.looksWith(h, 0), 41, MOST);
        s.due("the most", () -> x.looksWith(40, 0), 3);
    }

    static void p24WayTooSmall() {
        Sentence s = new Sentence(24, "or way is not 0 to 2");
        CoatHooks x = with(8, 2, 0, 8, 16);
        s.refuses(ARGUMENT, "way", w -> x.looksWith(8, w), -1, LEAST);
        s.due("the smallest", () -> x.looksWith(8, 0), 6);
    }

    static void p24WayTooLarge() {
        Sentence s = new Sentence(24, "or way is not 0 to 2");
        CoatHooks x = with(8, 0, 0, 8, 16);
        s.refuses(ARGUMENT, "way", w -> x.looksWith(8, w), 3, MOST);
        s.due("the largest", () -> x.looksWith(8, 2), 5);
    }

    static void p24MoreCoatsThanHooks() {
        Sentence s = new Sentence(24, "-1 if a coat had no place");
        CoatHooks four = full(4);
        s.changesNothing(-1, "4 coats on 3 hooks", four, () -> four.looksWith(3, 0));
        CoatHooks forty = full(40);
        s.changesNothing(-1, "40 coats on 39 hooks", forty, () -> forty.looksWith(39, 0));
    }

    static void p24NoPlaceThoughHooksAreFree() {
        Sentence s = new Sentence(24, "-1 if a coat had no place");
        CoatHooks triangles = with(8, 0, 0, 3, 6);
        s.changesNothing(-1, "3 hooks by triangles", triangles, () -> triangles.looksWith(3, 1));
        // By strides of 2 with 4 hooks 4 and 16 look at 0 and 2 alone.
        CoatHooks strides = with(8, 0, 0, 4, 16);
        s.changesNothing(-1, "4 hooks by strides", strides, () -> strides.looksWith(4, 2));
    }

    static void p24WithoutCoats() {
        Sentence s = new Sentence(24, "Returns allLooks(), if all were hung anew with them");
        s.due("all hooks free, the least hooks", () -> new CoatHooks().looksWith(3, 2), 0);
        s.due("all hooks free, the most hooks", () -> new CoatHooks().looksWith(40, 1), 0);
        s.due("tickets alone", () -> allTickets(40).looksWith(3, 0), 0);
    }

    static void p24AsManyCoatsAsHooks() {
        Sentence s = new Sentence(24, "Returns allLooks(), if all were hung anew with them");
        s.due("3 coats on 3 hooks", () -> with(8, 0, 0, 3, 6).looksWith(3, 0), 6);
        s.due("40 coats on 40 hooks", () -> longestWalks().looksWith(40, 0), 820);
    }

    static void p24WithoutTickets() {
        Sentence s = new Sentence(24, "Returns allLooks(), if all were hung anew with them");
        CoatHooks x = take(with(8, 0, 7, 15), 7);
        s.changesNothing(1, "15 on its own hook", x, () -> x.looksWith(8, 0));
        CoatHooks unseen = hidden();
        s.changesNothing(3, "one that is not found is found then", unseen, () -> unseen.looksWith(8, 1));
    }

    static void p24ByTheHooksFrom0On() {
        Sentence s = new Sentence(24, "if all were hung anew with them");
        // On the hooks 0, 1, 2 and 7 hang 0, 1, 15 and 7: 15 comes ahead of 7. By strides 15 comes on 7,
        // and 7 looks at 7, 0, 1 and 2; the other way round there would be 2 looks for 15, 1 for 7.
        s.due("15 ahead of 7", () -> with(8, 0, 0, 1, 7, 15).looksWith(8, 2), 7);
    }

    static void p24NothingIsChanged() {
        Sentence s = new Sentence(24, "(nothing is changed)");
        nothingIsChanged(s, "looksWith(3, 2)", x -> x.looksWith(3, 2));
        nothingIsChanged(s, "looksWith(39, 0)", x -> x.looksWith(39, 0));
        nothingIsChanged(s, "looksWith(40, 1)", x -> x.looksWith(40, 1));
    }

    // ---- 25, bestWay

    static void p25WithoutCoats() {
        Sentence s = new Sentence(25, "of several the smallest");
        s.due("all hooks free", () -> new CoatHooks().bestWay(), 0);
        s.due("40 tickets", () -> allTickets(40).bestWay(), 0);
    }

    static void p25OfSeveralTheSmallest() {
        Sentence s = new Sentence(25, "of several the smallest");
        CoatHooks all = with(8, 2, 0, 1);
        s.changesNothing(0, "of all three", all, () -> all.bestWay());
        // 8 looks at 0, 1, 2 and 3 in a row, at 0, 1 and 3 by triangles, at 0, 2 and 4 by strides.
        CoatHooks two = with(8, 0, 0, 1, 2, 8);
        s.changesNothing(1, "of triangles and strides", two, () -> two.bestWay());
    }

    static void p25AWayWithoutPlaces() {
        Sentence s = new Sentence(25, "0 or more");
        s.due("no place by strides", () -> with(4, 0, 0, 4, 16).looksWith(4, 2), -1);
        s.due("not by strides", () -> with(4, 0, 0, 4, 16).bestWay(), 0);
        s.due("no place by triangles", () -> with(3, 0, 0, 3, 6).looksWith(3, 1), -1);
        s.due("not by triangles", () -> with(3, 0, 0, 3, 6).bestWay(), 2);
    }

    static void p25NeverNone() {
        Sentence s = new Sentence(25, "-1 if there is none");
        // In a row each coat has a place, on as many hooks as there are: a way there always is.
        for (int hooks = 3; hooks <= 40; hooks++) {
            CoatHooks own = full(hooks);
            s.changesNothing(0, hooks + " coats on their own hooks", own, () -> own.bestWay());
            // All begin on the hook 0 by strides of 1: by strides they are looked for as in a row.
            CoatHooks x = with(hooks, 0, multiples(hooks * (hooks - 1), Math.min(hooks, 6)));
            s.due("coats that begin on one of " + hooks, () -> x.bestWay() >= 0, true);
        }
    }

    static void p25AsManyHooksAsThereAre() {
        Sentence s = new Sentence(25, "of as many hooks as there are");
        s.due("the least", () -> with(3, 0, 0, 3, 6).bestWay(), 2);
        s.due("of 9 in a row, each on its own", () -> with(9, 0, 0, 3, 6).bestWay(), 0);
        // 0, 40 and 80 begin on one of 40 hooks, and go on by strides of 1, 2 and 3.
        s.due("the most", () -> with(40, 0, 0, 40, 80).bestWay(), 2);
    }

    static void p25NothingIsChanged() {
        Sentence s = new Sentence(25, "(nothing is changed)");
        nothingIsChanged(s, "bestWay()", x -> x.bestWay());
    }

    // ---- 26, hooksWanted

    static void p26TooFewLooks() {
        Sentence s = new Sentence(26, "Throws IllegalArgumentException if looks is not 0 to 400");
        CoatHooks x = new CoatHooks();
        s.refuses(ARGUMENT, "looks", looks -> x.hooksWanted(looks), -1, -2, LEAST);
        s.due("the least", () -> x.hooksWanted(0), 3);
    }

    static void p26TooManyLooks() {
        Sentence s = new Sentence(26, "Throws IllegalArgumentException if looks is not 0 to 400");
        CoatHooks x = new CoatHooks();
        s.refuses(ARGUMENT, "looks", looks -> x.hooksWanted(looks), 401, MOST);
        s.due("the most", () -> x.hooksWanted(400), 3);
    }

    static void p26TheLeastHooks() {
        Sentence s = new Sentence(26, "Returns the fewest hooks, 3 to 40");
        s.due("without coats", () -> new CoatHooks().hooksWanted(0), 3);
        s.due("with tickets alone", () -> allTickets(40).hooksWanted(0), 3);
        s.due("with 3 coats", () -> full(3).hooksWanted(3), 3);
    }

    static void p26TheMostHooks() {
        Sentence s = new Sentence(26, "Returns the fewest hooks, 3 to 40");
        CoatHooks all = full(40);
        s.changesNothing(40, "40 coats with 40 looks", all, () -> all.hooksWanted(40));
        // The coat 40 begins on 0, and looks at all 40 hooks; with 41 hooks, which can't be, at one.
        CoatHooks late = with(40, 0, upTo(39));
        late.hang(40, 1);
        s.changesNothing(40, "with 79 looks", late, () -> late.hooksWanted(79));
        s.changesNothing(-1, "with 78 looks", late, () -> late.hooksWanted(78));
    }

    static void p26NoMoreThanThis() {
        Sentence s = new Sentence(26, "for which looksWith() by the way of now is no more than this");
        CoatHooks x = with(8, 0, 0, 8, 16, 24);
        s.due("10 looks with 4 hooks, so many", () -> x.hooksWanted(10), 4);
        s.due("one less", () -> x.hooksWanted(9), 5);
        s.due("the most looks", () -> x.hooksWanted(400), 4);
    }

    static void p26By400Looks() {
        Sentence s = new Sentence(26, "is no more than this");
        // With 40 hooks 27 begin on 0, 4 on 27, 3 on 31, and each other on its own: they go on over
        // 351, 6, 3 and 0 hooks, and with the first look of each of 40 there are 400 looks.
        CoatHooks x = with(40, 0, multiples(40, 27));
        for (int number : new int[] {27, 67, 107, 147, 31, 71, 111, 34, 35, 36, 37, 38, 39}) {
            x.hang(number, 1);
        }
        s.due("looks", () -> x.allLooks(), 400);
        s.due("so many", () -> x.hooksWanted(400), 40);
        s.due("one less", () -> x.hooksWanted(399), -1);
    }

    static void p26ByTheWayOfNow() {
        Sentence s = new Sentence(26, "by the way of now");
        CoatHooks strides = with(8, 2, 0, 8, 16, 24);
        s.due("by strides", () -> strides.hooksWanted(7), 4);
        // With 4 hooks 8 / 4 and 24 / 4 % 3 are 2 and 0, so there are 1, 2, 2 and 2 looks.
        s.due("one less", () -> strides.hooksWanted(6), 5);
    }

    static void p26HooksWithoutPlacesDoNotCount() {
        Sentence s = new Sentence(26, "0 or more");
        s.due("no place on 3 hooks", () -> full(4).hooksWanted(4), 4);
        s.due("no place on 39 hooks", () -> full(40).hooksWanted(400), 40);
        s.due("no place on 3 by triangles", () -> with(8, 1, 0, 3, 6).hooksWanted(400), 4);
    }

    static void p26ThereAreNone() {
        Sentence s = new Sentence(26, "-1 if there are none");
        CoatHooks one = with(8, 0, 0);
        s.changesNothing(-1, "one coat without a look", one, () -> one.hooksWanted(0));
        CoatHooks most = longestWalks();
        s.changesNothing(-1, "820 looks with 40 hooks", most, () -> most.hooksWanted(400));
    }

    static void p26NothingIsChanged() {
        Sentence s = new Sentence(26, "(nothing is changed)");
        nothingIsChanged(s, "hooksWanted(0)", x -> x.hooksWanted(0));
        nothingIsChanged(s, "hooksWanted(400)", x -> x.hooksWanted(400));
    }

    // ---- 27, meanLooks

    static void p27WithoutCoats() {
        Sentence s = new Sentence(27, "0 without coats");
        s.due("all hooks free", () -> new CoatHooks().meanLooks(), 0.0);
        s.due("40 tickets", () -> allTickets(40).meanLooks(), 0.0);
    }

    static void p27AllHooksFull() {
        Sentence s = new Sentence(27, "Returns allLooks() divided by the coats");
        s.due("3 coats on their own hooks", () -> full(3).meanLooks(), 1.0);
        s.due("40 coats on their own hooks", () -> full(40).meanLooks(), 1.0);
        s.due("40 coats that begin on one hook", () -> longestWalks().meanLooks(), 20.5);
    }

    static void p27NotAWholeNumber() {
        Sentence s = new Sentence(27, "Returns allLooks() divided by the coats");
        s.due("5 looks for 3 coats are not cut", () -> with(8, 0, 0, 8, 1).looksWith(8, 0), 5);
        s.due("5 / 3", () -> with(8, 0, 0, 8, 1).meanLooks(), 5.0 / 3.0);
        s.due("3 / 2, one of them not found", () -> hidden().meanLooks(), 1.5);
    }

    // ---- 28, digest

    private static int[] together(int[] first, int[] then) {
        int[] all = new int[first.length + then.length];
        System.arraycopy(first, 0, all, 0, first.length);
        System.arraycopy(then, 0, all, first.length, then.length);
        return all;
    }

    /** What the numbers make, in numbers without an end; of that the last 64 bits. */
    private static long digestOf(int... numbers) {
        BigInteger d = BigInteger.valueOf(2237);
        for (int x : numbers) {
            d = d.multiply(BigInteger.valueOf(31)).add(BigInteger.valueOf(x));
        }
        return d.longValue();
    }

    private static long digestByAnswers(CoatHooks x) {
        int[] numbers = {x.hooks(), x.way(), x.coats(), x.tickets(), x.weight(), x.heaviestAt(), x.allLooks(),
            x.farthest(), x.rows(), x.longestRow(), x.bestWay(), x.hooksWanted(20)};
        for (int hook = 0; hook < x.hooks(); hook++) {
            numbers = together(numbers, new int[] {x.stateOf(hook), x.coatAt(hook), x.weightAt(hook),
                x.rowAt(hook), x.looksFor(hook * 7)});
        }
        return digestOf(numbers);
    }

    static void p28WithoutCoats() {
        Sentence s = new Sentence(28, "A number d starts with 2237");
        CoatHooks x = with(3, 0);
        s.changesNothing(digestOf(3, 0, 0, 0, 0, -1, 0, -1, 0, 0, 0, 3, 0, -1, 0, 0, 1, 0, -1, 0, 0, 1, 0, -1, 0, 0, 1),
            "with the least hooks", x, () -> x.digest());
    }

    static void p28ItWrapsAround() {
        Sentence s = new Sentence(28, "d becomes d * 31 + x, which wraps around as a 64-bit integer");
        CoatHooks[] all = {new CoatHooks(), full(3), full(40), longestWalks(), hidden(), unseenHook(),
            allTickets(3), allTickets(40), take(full(40), 0, 39)};
        for (int i = 0; i < all.length; i++) {
            CoatHooks x = all[i];
            s.changesNothing(digestByAnswers(x), "in the theatre " + i, x, () -> x.digest());
        }
    }

    static void p28By20Looks() {
        Sentence s = new Sentence(28, "hooksWanted(20)");
        CoatHooks enough = with(40, 0, upTo(20));
        s.due("20 hooks for 20 coats", () -> enough.hooksWanted(20), 20);
        s.due("digest with it", () -> enough.digest(), digestByAnswers(enough));
        CoatHooks over = with(40, 0, upTo(21));
        s.due("none for 21 coats", () -> over.hooksWanted(20), -1);
        s.due("digest with it", () -> over.digest(), digestByAnswers(over));
    }

    static void p28ForEachHookUpToTheLast() {
        Sentence s = new Sentence(28, "and looksFor() of its number times 7");
        // 0 hangs on 0; 7 begins at the coat 4, and stops at the free hook 2; 14 begins there.
        CoatHooks x = with(3, 0, 0, 4);
        s.due("3 hooks", () -> x.digest(), digestOf(3, 0, 2, 0, 3, 1, 2, 0, 1, 2, 0, 3,
            1, 0, 1, 2, 1, 1, 4, 2, 2, 2, 0, -1, 0, 0, 1));
        // 39 * 7 is 273, of which none hangs: 40 hooks are looked at.
        CoatHooks most = full(40);
        s.due("the last of 40", () -> most.looksFor(273), 40);
        s.due("40 hooks", () -> most.digest(), digestByAnswers(most));
    }

    public static void main(String[] args) throws IllegalAccessException {
        Sentence.runAll(WhatWouldBeBoundariesTest.class);
    }
}
