/** The boundary cases of the promises 15 to 20, the calls under 'looking', each with a test of its own. */
public final class LookingBoundariesTest extends Theatres {
    private static final String LOOKS =
        "Returns at how many hooks an usher looks for it, one that is looked at several times as often.";

    // ---- 15, find

    static void p15NumberTooSmall() {
        WrongArguments.numberTooSmall(15, CoatHooks::find);
    }

    static void p15NumberTooLarge() {
        WrongArguments.numberTooLarge(15, CoatHooks::find);
    }

    static void p15NotFoundWithoutCoats() {
        Sentence s = new Sentence(15, "-1 if it is not found");
        s.due("all hooks free", () -> new CoatHooks().find(0), -1);
        s.due("3 tickets", () -> allTickets(3).find(0), -1);
        s.due("40 tickets", () -> allTickets(40).find(39), -1);
    }

    static void p15NotFoundAmongAllHooks() {
        Sentence s = new Sentence(15, "-1 if it is not found");
        s.due("3 coats", () -> full(3).find(3), -1);
        s.due("40 coats", () -> full(40).find(9999), -1);
    }

    static void p15NotFoundThoughItHangs() {
        Sentence s = new Sentence(15, "-1 if it is not found");
        CoatHooks x = hidden();
        s.changesNothing(-1, "find of 16", x, () -> x.find(16));
    }

    static void p15TheFirstAndTheLastHook() {
        Sentence s = new Sentence(15, "Returns the hook on which an usher finds the coat");
        s.due("the smallest number on the first", () -> full(3).find(0), 0);
        s.due("on the last of 3", () -> full(3).find(2), 2);
        s.due("on the last of 40", () -> full(40).find(39), 39);
        s.due("the largest number", () -> with(40, 0, 9999).find(9999), 39);
    }

    static void p15PastTheLastHook() {
        Sentence s = new Sentence(15, "Returns the hook on which an usher finds the coat");
        s.due("in a row", () -> with(8, 0, 7, 15).find(15), 0);
        s.due("by triangles", () -> with(8, 1, 7, 15, 23).find(23), 2);
        s.due("by strides", () -> with(8, 2, 7, 15).find(15), 1);
    }

    static void p15InTheLastStep() {
        Sentence s = new Sentence(15, "Returns the hook on which an usher finds the coat");
        s.due("of 3, past tickets alone", () -> take(with(3, 0, 0, 3, 6), 0, 3).find(6), 2);
        s.due("of 40", () -> longestWalks().find(1560), 39);
    }

    // ---- 16, looksFor

    static void p16NumberTooSmall() {
        WrongArguments.numberTooSmall(16, CoatHooks::looksFor);
    }

    static void p16NumberTooLarge() {
        WrongArguments.numberTooLarge(16, CoatHooks::looksFor);
    }

    static void p16OneLook() {
        Sentence s = new Sentence(16, LOOKS);
        s.due("all hooks free, the smallest number", () -> new CoatHooks().looksFor(0), 1);
        s.due("all hooks free, the largest number", () -> new CoatHooks().looksFor(9999), 1);
        s.due("on its own hook", () -> full(3).looksFor(2), 1);
    }

    static void p16AtAllHooks() {
        Sentence s = new Sentence(16, LOOKS);
        s.due("3 coats", () -> full(3).looksFor(3), 3);
        s.due("3 tickets", () -> allTickets(3).looksFor(0), 3);
        s.due("40 coats", () -> full(40).looksFor(40), 40);
        s.due("40 tickets", () -> allTickets(40).looksFor(0), 40);
        s.due("found in the last step", () -> longestWalks().looksFor(1560), 40);
        s.due("the only free one in the last step", () -> with(40, 0, upTo(39)).looksFor(40), 40);
    }

    static void p16SeveralTimesAsOften() {
        Sentence s = new Sentence(16, LOOKS);
        s.due("by triangles 0, 1 and 0", () -> unseenHook().looksFor(6), 3);
        // 4 / 4 and 16 / 4 % 3 are 1: the strides of 4 and 16 are 2.
        s.due("by strides 0, 2, 0 and 2", () -> with(4, 2, 0, 4).looksFor(16), 4);
    }

    static void p16PastTheLastHook() {
        Sentence s = new Sentence(16, LOOKS);
        s.due("7, 0 and the free hook 1", () -> with(8, 0, 7, 15).looksFor(23), 3);
        s.due("by triangles 7, 0, 2 and the free hook 5", () -> with(8, 1, 7, 15, 23).looksFor(31), 4);
    }

    static void p16OneThatHangsButIsNotFound() {
        Sentence s = new Sentence(16, LOOKS);
        s.due("up to the free hook", () -> hidden().looksFor(16), 2);
    }

    // ---- 17, placeFor

    static void p17NumberTooSmall() {
        WrongArguments.numberTooSmall(17, CoatHooks::placeFor);
    }

    static void p17NumberTooLarge() {
        WrongArguments.numberTooLarge(17, CoatHooks::placeFor);
    }

    static void p17ItHangs() {
        Sentence s = new Sentence(17, "-1 if it hangs");
        s.due("the smallest number", () -> with(8, 0, 0).placeFor(0), -1);
        s.due("the largest number", () -> with(8, 0, 9999).placeFor(9999), -1);
        s.due("behind a ticket", () -> take(with(8, 0, 7, 15), 7).placeFor(15), -1);
        s.due("unseen", () -> hidden().placeFor(16), -1);
    }

    static void p17NoPlace() {
        Sentence s = new Sentence(17, "or has no place");
        s.due("3 coats", () -> full(3).placeFor(3), -1);
        s.due("40 coats", () -> full(40).placeFor(9999), -1);
        s.due("a free hook that is not looked at", () -> unseenHook().placeFor(6), -1);
        s.due("a ticket that is not looked at", () -> take(with(3, 1, 0, 3, 2), 2).placeFor(6), -1);
    }

    static void p17TheFirstAndTheLastHook() {
        Sentence s = new Sentence(17, "Returns the hook on which a coat with it would come");
        s.due("the smallest number", () -> new CoatHooks().placeFor(0), 0);
        s.due("the largest number", () -> with(40, 0).placeFor(9999), 39);
        s.due("from the last hook to 0", () -> with(8, 0, 7).placeFor(15), 0);
        s.due("in the last step", () -> with(40, 0, upTo(39)).placeFor(40), 39);
    }

    static void p17OnATicket() {
        Sentence s = new Sentence(17, "Returns the hook on which a coat with it would come");
        CoatHooks all = allTickets(40);
        s.changesNothing(39, "tickets on all hooks", all, () -> all.placeFor(9999));
        s.due("the one ticket among coats", () -> take(full(40), 7).placeFor(48), 7);
        s.due("a ticket ahead of a free hook", () -> take(with(8, 0, 7, 15), 15).placeFor(23), 0);
    }

    static void p17NothingComes() {
        Sentence s = new Sentence(17, "Returns the hook on which a coat with it would come");
        CoatHooks x = new CoatHooks();
        s.changesNothing(5, "the first time", x, () -> x.placeFor(5));
        s.changesNothing(5, "the second time", x, () -> x.placeFor(5));
    }

    // ---- 18, lookedAt

    static void p18NumberTooSmall() {
        WrongArguments.numberTooSmall(18, (x, n) -> x.lookedAt(n, 0));
    }

    static void p18NumberTooLarge() {
        WrongArguments.numberTooLarge(18, (x, n) -> x.lookedAt(n, 0));
    }

    static void p18StepTooSmall() {
        Sentence s = new Sentence(18, "or step is not 0 to 39");
        CoatHooks x = new CoatHooks();
        s.refuses(ARGUMENT, "step", k -> x.lookedAt(5, k), -1, -8, Integer.MIN_VALUE);
        s.due("the smallest", () -> x.lookedAt(5, 0), 5);
    }

    static void p18StepTooLarge() {
        Sentence s = new Sentence(18, "or step is not 0 to 39");
        CoatHooks x = new CoatHooks();
        s.refuses(ARGUMENT, "step", k -> x.lookedAt(5, k), 40, 41, Integer.MAX_VALUE);
        s.due("the largest", () -> x.lookedAt(5, 39), 4);
    }

    static void p18StepsOfTheHooksAndOn() {
        Sentence s = new Sentence(18, "Returns the hook at which the usher would look in it.");
        CoatHooks row = with(3, 0);
        s.due("in a row the step 3 of 3 hooks", () -> row.lookedAt(1, 3), 1);
        CoatHooks triangles = with(3, 1);
        s.due("by triangles the step 4 of 3 hooks", () -> triangles.lookedAt(1, 4), 2);
        CoatHooks strides = with(3, 2);
        s.due("by strides the step 4 of 3 hooks", () -> strides.lookedAt(3, 4), 2);
    }

    static void p18WhereverTheUsherStops() {
        Sentence s = new Sentence(18, "Returns the hook at which the usher would look in it.");
        CoatHooks x = full(40);
        s.due("behind the coat itself", () -> x.lookedAt(39, 1), 0);
        s.due("without coats", () -> with(40, 0).lookedAt(39, 1), 0);
    }

    // ---- 19, allLooks

    static void p19NoCoats() {
        Sentence s = new Sentence(19, "Returns looksFor() of each coat, added.");
        s.due("all hooks free", () -> new CoatHooks().allLooks(), 0);
        s.due("40 tickets", () -> allTickets(40).allLooks(), 0);
    }

    static void p19AllHooksFull() {
        Sentence s = new Sentence(19, "Returns looksFor() of each coat, added.");
        s.due("3 coats on their own hooks", () -> full(3).allLooks(), 3);
        s.due("40 coats on their own hooks", () -> full(40).allLooks(), 40);
        s.due("40 coats that begin at one hook", () -> longestWalks().allLooks(), 820);
    }

    static void p19PastTicketsAndTheLastHook() {
        Sentence s = new Sentence(19, "Returns looksFor() of each coat, added.");
        s.due("7, 0 and 1, past two tickets", () -> take(with(8, 0, 7, 15, 23), 7, 15).allLooks(), 3);
        s.due("one that is not found", () -> hidden().allLooks(), 3);
    }

    // ---- 20, farthest

    static void p20NoCoats() {
        Sentence s = new Sentence(20, "-1 without coats");
        s.due("all hooks free", () -> new CoatHooks().farthest(), -1);
        s.due("40 tickets", () -> allTickets(40).farthest(), -1);
        s.due("the coat 0 is one", () -> with(8, 0, 0).farthest(), 0);
    }

    static void p20OfSeveralTheSmallestHook() {
        Sentence s = new Sentence(20, "of several that on the hook with the smallest number");
        s.due("one look for each of 40", () -> full(40).farthest(), 0);
        s.due("the smaller hook has the larger number", () -> with(8, 0, 9000, 1, 2).farthest(), 9000);
        // 15 begins at 7, and hangs on 0; 12 begins at 4, and hangs on 5.
        s.due("two looks for each of two", () -> with(8, 0, 4, 12, 7, 15).farthest(), 15);
    }

    static void p20OnTheFirstAndOnTheLastHook() {
        Sentence s = new Sentence(20,
            "Returns the number of the coat for which an usher looks at the most hooks");
        s.due("the last hook, 40 looks", () -> longestWalks().farthest(), 1560);
        s.due("the hook 0, past the last one", () -> with(8, 0, 6, 7, 14).farthest(), 14);
        s.due("one that is not found", () -> hidden().farthest(), 16);
    }

    public static void main(String[] args) throws IllegalAccessException {
        Sentence.runAll(LookingBoundariesTest.class);
    }
}
