/** The boundary cases of the promises 6 to 14, the calls under 'hooks', each with a test of its own. */
public final class HooksBoundariesTest extends Theatres {
    // ---- 6, hooks

    static void p06LeastAndMost() {
        Sentence s = new Sentence(6, "Returns how many hooks there are.");
        CoatHooks x = new CoatHooks();
        s.due("at first", () -> x.hooks(), 8);
        x.rehang(3, 0);
        s.due("the least", () -> x.hooks(), 3);
        x.rehang(40, 0);
        s.due("the most", () -> x.hooks(), 40);
    }

    static void p06AfterARefusedIntermission() {
        Sentence s = new Sentence(6, "Returns how many hooks there are.");
        CoatHooks x = full(4);
        s.due("hooks too few", () -> x.rehang(2, 1), ARGUMENT);
        s.due("hooks too few for the coats", () -> x.rehang(3, 1), STATE);
        s.due("as many as before", () -> x.hooks(), 4);
    }

    // ---- 7, way

    static void p07SmallestAndLargest() {
        Sentence s = new Sentence(7, "Returns the way.");
        CoatHooks x = new CoatHooks();
        s.due("at first", () -> x.way(), 0);
        x.rehang(8, 2);
        s.due("the largest", () -> x.way(), 2);
        x.rehang(8, 0);
        s.due("the smallest", () -> x.way(), 0);
    }

    static void p07AfterARefusedIntermission() {
        Sentence s = new Sentence(7, "Returns the way.");
        CoatHooks x = with(8, 1, 0, 1, 2, 3);
        s.due("a way too large", () -> x.rehang(8, 3), ARGUMENT);
        s.due("hooks too few for the coats", () -> x.rehang(3, 2), STATE);
        s.due("that of before", () -> x.way(), 1);
    }

    // ---- 8, coats

    static void p08NoCoats() {
        Sentence s = new Sentence(8, "Returns how many coats hang.");
        s.due("at first", () -> new CoatHooks().coats(), 0);
        s.due("all taken", () -> allTickets(40).coats(), 0);
    }

    static void p08AllHooksFull() {
        Sentence s = new Sentence(8, "Returns how many coats hang.");
        s.due("the least hooks", () -> full(3).coats(), 3);
        s.due("the most hooks", () -> full(40).coats(), 40);
    }

    static void p08ARefusedOneDoesNotCount() {
        Sentence s = new Sentence(8, "Returns how many coats hang.");
        CoatHooks x = full(3);
        s.due("it hangs", () -> x.hang(0, 1), STATE);
        s.due("it has no place", () -> x.hang(3, 1), STATE);
        s.due("as many as before", () -> x.coats(), 3);
        s.due("one that does not hang is taken", () -> x.take(3), STATE);
        s.due("as many as before", () -> x.coats(), 3);
    }

    static void p08OneThatIsNotFoundCounts() {
        Sentence s = new Sentence(8, "Returns how many coats hang.");
        s.due("with 0 and 16", () -> hidden().coats(), 2);
    }

    // ---- 9, tickets

    static void p09NoTickets() {
        Sentence s = new Sentence(9, "Returns how many hooks have tickets.");
        s.due("all hooks free", () -> new CoatHooks().tickets(), 0);
        s.due("all hooks with coats", () -> full(40).tickets(), 0);
    }

    static void p09AllHooks() {
        Sentence s = new Sentence(9, "Returns how many hooks have tickets.");
        s.due("the least hooks", () -> allTickets(3).tickets(), 3);
        s.due("the most hooks", () -> allTickets(40).tickets(), 40);
    }

    static void p09TicketsThatGo() {
        Sentence s = new Sentence(9, "Returns how many hooks have tickets.");
        CoatHooks x = allTickets(3);
        x.hang(0, 1);
        s.due("a coat comes on one", () -> x.tickets(), 2);
        x.take(0);
        x.sweep();
        s.due("all are swept", () -> x.tickets(), 0);
        CoatHooks anew = allTickets(3);
        anew.rehang(3, 0);
        s.due("all is hung anew", () -> anew.tickets(), 0);
    }

    static void p09ARefusedOneLeavesNone() {
        Sentence s = new Sentence(9, "Returns how many hooks have tickets.");
        CoatHooks x = hidden();
        s.due("one that does not hang", () -> x.take(8), STATE);
        s.due("one that is not found", () -> x.take(16), STATE);
        s.due("no tickets", () -> x.tickets(), 0);
    }

    // ---- 10, stateOf

    static void p10HookTooSmall() {
        WrongArguments.hookTooSmall(10, CoatHooks::stateOf);
    }

    static void p10HookTooLarge() {
        WrongArguments.hookTooLarge(10, CoatHooks::stateOf);
    }

    static void p10WithLeastAndMostHooks() {
        WrongArguments.hookOfLeastAndMost(10, CoatHooks::stateOf);
    }

    static void p10TheThreeStates() {
        Sentence s = new Sentence(10, "Returns 0 if it is free, 1 if it has a coat, 2 if it has a ticket.");
        CoatHooks x = take(with(3, 0, 0, 2), 0);
        s.due("a ticket on the first hook", () -> x.stateOf(0), 2);
        s.due("free", () -> x.stateOf(1), 0);
        s.due("a coat on the last hook", () -> x.stateOf(2), 1);
    }

    // ---- 11, coatAt

    static void p11HookTooSmall() {
        WrongArguments.hookTooSmall(11, CoatHooks::coatAt);
    }

    static void p11HookTooLarge() {
        WrongArguments.hookTooLarge(11, CoatHooks::coatAt);
    }

    static void p11WithLeastAndMostHooks() {
        WrongArguments.hookOfLeastAndMost(11, CoatHooks::coatAt);
    }

    static void p11WithoutACoat() {
        Sentence s = new Sentence(11, "Returns the number of its coat; -1 without one.");
        CoatHooks x = take(with(3, 0, 0, 2), 2);
        s.due("the smallest number", () -> x.coatAt(0), 0);
        s.due("a free hook", () -> x.coatAt(1), -1);
        s.due("a ticket", () -> x.coatAt(2), -1);
        s.due("the largest number", () -> with(8, 0, 9999).coatAt(7), 9999);
    }

    // ---- 12, weightAt

    static void p12HookTooSmall() {
        WrongArguments.hookTooSmall(12, CoatHooks::weightAt);
    }

    static void p12HookTooLarge() {
        WrongArguments.hookTooLarge(12, CoatHooks::weightAt);
    }

    static void p12WithLeastAndMostHooks() {
        WrongArguments.hookOfLeastAndMost(12, CoatHooks::weightAt);
    }

    static void p12WithoutACoat() {
        Sentence s = new Sentence(12, "Returns the weight of its coat; 0 without one.");
        CoatHooks x = new CoatHooks();
        x.hang(0, 1);
        x.hang(7, 99);
        s.due("the smallest weight", () -> x.weightAt(0), 1);
        s.due("a free hook", () -> x.weightAt(1), 0);
        s.due("the largest weight", () -> x.weightAt(7), 99);
        x.take(7);
        s.due("a ticket", () -> x.weightAt(7), 0);
    }

    // ---- 13, weight

    static void p13NoCoats() {
        Sentence s = new Sentence(13, "Returns the weights of all coats, added.");
        s.due("at first", () -> new CoatHooks().weight(), 0);
        s.due("all taken", () -> allTickets(40).weight(), 0);
    }

    static void p13AllHooksFull() {
        Sentence s = new Sentence(13, "Returns the weights of all coats, added.");
        CoatHooks x = with(40, 0);
        for (int number = 0; number < 40; number++) {
            x.hang(number, 99);
        }
        s.due("40 of 99", () -> x.weight(), 3960);
        x.take(0);
        s.due("without that of the first hook", () -> x.weight(), 3861);
        x.take(39);
        s.due("without that of the last hook", () -> x.weight(), 3762);
        s.due("3 coats of 1, 2 and 3", () -> full(3).weight(), 6);
    }

    static void p13OneThatIsNotFoundWeighs() {
        Sentence s = new Sentence(13, "Returns the weights of all coats, added.");
        s.due("1 and 3", () -> hidden().weight(), 4);
    }

    // ---- 14, heaviestAt

    static void p14NoCoats() {
        Sentence s = new Sentence(14, "-1 without coats");
        s.due("at first", () -> new CoatHooks().heaviestAt(), -1);
        s.due("all taken", () -> allTickets(40).heaviestAt(), -1);
        s.due("the lightest is one", () -> with(8, 0, 6).heaviestAt(), 6);
    }

    static void p14OfSeveralTheSmallest() {
        Sentence s = new Sentence(14, "of several the smallest number");
        CoatHooks x = with(40, 0);
        for (int number = 39; number >= 0; number--) {
            x.hang(number, 99);
        }
        s.due("40 of them", () -> x.heaviestAt(), 0);
        x.take(0);
        s.due("39 of them", () -> x.heaviestAt(), 1);
        CoatHooks three = new CoatHooks();
        three.hang(1, 98);
        three.hang(7, 99);
        three.hang(4, 99);
        s.due("not that of 98", () -> three.heaviestAt(), 4);
    }

    static void p14OnTheFirstAndOnTheLastHook() {
        Sentence s = new Sentence(14, "Returns the hook with the heaviest coat");
        s.due("the last of 40", () -> full(40).heaviestAt(), 39);
        s.due("the first of 3", () -> with(3, 0, 2, 1, 0).heaviestAt(), 0);
    }

    public static void main(String[] args) throws IllegalAccessException {
        Sentence.runAll(HooksBoundariesTest.class);
    }
}
