/** The boundary cases of the promises 1 to 5, the calls under 'coats', each with a test of its own. */
public final class CoatsBoundariesTest extends Theatres {
    private static final int LEAST = Integer.MIN_VALUE;
    private static final int MOST = Integer.MAX_VALUE;

    // ---- 1, a new object

    static void p01EightFreeHooks() {
        Sentence s = new Sentence(1, "Creates a theatre with 8 free hooks, and the way 0.");
        CoatHooks x = new CoatHooks();
        s.due("hooks", () -> x.hooks(), 8);
        s.list("states", statesOf(x), 0, 0, 0, 0, 0, 0, 0, 0);
        s.list("coats", coatsOf(x), -1, -1, -1, -1, -1, -1, -1, -1);
        s.due("way", () -> x.way(), 0);
    }

    static void p01EachTheatreIsItsOwn() {
        Sentence s = new Sentence(1, "Creates a theatre");
        CoatHooks first = full(3);
        CoatHooks second = new CoatHooks();
        s.due("hooks of the second", () -> second.hooks(), 8);
        s.due("coats of the second", () -> second.coats(), 0);
        second.rehang(40, 2);
        second.hang(7, 70);
        s.due("hooks of the first", () -> first.hooks(), 3);
        s.list("coats of the first", coatsOf(first), 0, 1, 2);
    }

    // ---- 2, hang

    static void p02NumberTooSmall() {
        Sentence s = new Sentence(2, "Throws IllegalArgumentException if number is not 0 to 9999");
        CoatHooks x = new CoatHooks();
        s.refuses(ARGUMENT, "hang", n -> x.hang(n, 50), -1, -8, LEAST);
        s.due("the smallest one", () -> x.hang(0, 50), 0);
    }

    static void p02NumberTooLarge() {
        Sentence s = new Sentence(2, "Throws IllegalArgumentException if number is not 0 to 9999");
        CoatHooks x = new CoatHooks();
        s.refuses(ARGUMENT, "hang", n -> x.hang(n, 50), 10000, MOST);
        s.due("the largest one", () -> x.hang(9999, 50), 7);
    }

    static void p02WeightTooSmall() {
        Sentence s = new Sentence(2, "or weight is not 1 to 99");
        CoatHooks x = new CoatHooks();
        s.refuses(ARGUMENT, "hang with a weight", w -> x.hang(5, w), 0, -1, LEAST);
        s.due("the smallest one", () -> x.hang(5, 1), 5);
    }

    static void p02WeightTooLarge() {
        Sentence s = new Sentence(2, "or weight is not 1 to 99");
        CoatHooks x = new CoatHooks();
        s.refuses(ARGUMENT, "hang with a weight", w -> x.hang(5, w), 100, MOST);
        s.due("the largest one", () -> x.hang(5, 99), 5);
    }

    static void p02ItHangs() {
        Sentence s = new Sentence(2, "Throws IllegalStateException if it hangs");
        CoatHooks x = with(8, 0, 0, 7, 15);
        s.refuses(STATE, "hang", n -> x.hang(n, 50), 0, 7, 15);
        s.list("their weights stay", weightsOf(x), 1, 3, 0, 0, 0, 0, 0, 2);
    }

    static void p02ItHangsBehindATicket() {
        Sentence s = new Sentence(2, "Throws IllegalStateException if it hangs");
        CoatHooks x = take(with(8, 0, 7, 15), 7);
        s.changesNothing(STATE, "hang of 15 again", x, () -> x.hang(15, 50));
        s.due("the taken one may come again", () -> x.hang(7, 50), 7);
    }

    static void p02ItHangsUnseenOnTheHook0() {
        Sentence s = new Sentence(2, "Throws IllegalStateException if it hangs");
        // By triangles 5, 13 and 21 hang on 5, 6 and 0; then the ticket on 6 is swept.
        CoatHooks x = take(with(8, 1, 5, 13, 21), 13);
        x.sweep();
        s.changesNothing(STATE, "hang of 21 again", x, () -> x.hang(21, 50));
    }

    static void p02ItHangsUnseenOnTheLastHook() {
        Sentence s = new Sentence(2, "Throws IllegalStateException if it hangs");
        // By triangles 4, 12 and 20 hang on 4, 5 and 7; then the ticket on 5 is swept.
        CoatHooks x = take(with(8, 1, 4, 12, 20), 12);
        x.sweep();
        s.changesNothing(STATE, "hang of 20 again", x, () -> x.hang(20, 50));
    }

    static void p02NoPlaceAmongCoats() {
        Sentence s = new Sentence(2, "or has no place");
        CoatHooks three = full(3);
        s.refuses(STATE, "hang with 3 coats", n -> three.hang(n, 50), 3, 9999);
        CoatHooks forty = full(40);
        s.refuses(STATE, "hang with 40 coats", n -> forty.hang(n, 50), 40, 9999);
        s.due("none has come", () -> forty.weight(), 820);
    }

    static void p02NoPlaceThoughAHookIsFree() {
        Sentence s = new Sentence(2, "or has no place");
        CoatHooks triangles = unseenHook();
        s.changesNothing(STATE, "hang of 6 by triangles", triangles, () -> triangles.hang(6, 50));
        // By strides of 2 with 4 hooks an usher looks for 16 on 0, 2, 0 and 2.
        CoatHooks strides = with(4, 2, 0, 4);
        s.changesNothing(STATE, "hang of 16 by strides", strides, () -> strides.hang(16, 50));
        s.due("one that begins on the free hook", () -> strides.hang(3, 50), 3);
    }

    static void p02NoPlaceThoughAHookHasATicket() {
        Sentence s = new Sentence(2, "or has no place");
        CoatHooks x = take(with(3, 1, 0, 3, 2), 2);
        s.changesNothing(STATE, "hang of 6 by triangles", x, () -> x.hang(6, 50));
    }

    static void p02OnTheHook0BehindTheLast() {
        Sentence s = new Sentence(2, "Returns the hook on which it hangs then.");
        CoatHooks x = with(40, 0, 39);
        s.due("from 39 on", () -> x.hang(79, 1), 0);
        s.due("it is there", () -> x.coatAt(0), 79);
    }

    static void p02OnTheLastFreeHook() {
        Sentence s = new Sentence(2, "Returns the hook on which it hangs then.");
        CoatHooks three = with(3, 0, 1, 2);
        s.due("of 3", () -> three.hang(1000, 1), 0);
        CoatHooks forty = with(40, 0, upTo(39));
        s.due("of 40, at the end of the longest way", () -> forty.hang(40, 1), 39);
    }

    static void p02OnATicketOfAllHooks() {
        Sentence s = new Sentence(2, "Returns the hook on which it hangs then.");
        s.due("its own hook of 3", () -> allTickets(3).hang(9999, 1), 0);
        s.due("its own hook of 40", () -> allTickets(40).hang(9999, 1), 39);
        CoatHooks one = take(full(40), 7);
        s.due("the one ticket among 39 coats", () -> one.hang(48, 1), 7);
    }

    // ---- 3, take

    static void p03NumberTooSmall() {
        Sentence s = new Sentence(3, "Throws IllegalArgumentException if number is not 0 to 9999");
        CoatHooks x = with(8, 0, 0);
        s.refuses(ARGUMENT, "take", n -> x.take(n), -1, -2, LEAST);
        s.due("the smallest one", () -> x.take(0), 1);
    }

    static void p03NumberTooLarge() {
        Sentence s = new Sentence(3, "Throws IllegalArgumentException if number is not 0 to 9999");
        CoatHooks x = with(8, 0, 9999);
        s.refuses(ARGUMENT, "take", n -> x.take(n), 10000, MOST);
        s.due("the largest one", () -> x.take(9999), 1);
    }

    static void p03ItDoesNotHang() {
        Sentence s = new Sentence(3, "Throws IllegalStateException if it does not hang");
        CoatHooks empty = new CoatHooks();
        s.refuses(STATE, "take without coats", n -> empty.take(n), 0, 9999);
        s.refuses(STATE, "take from full hooks", n -> full(40).take(n), 40, 9999);
        s.refuses(STATE, "take from tickets alone", n -> allTickets(40).take(n), 0, 39, 9999);
    }

    static void p03ItIsTakenAlready() {
        Sentence s = new Sentence(3, "Throws IllegalStateException if it does not hang");
        CoatHooks x = take(with(8, 0, 5), 5);
        s.changesNothing(STATE, "take of 5 again", x, () -> x.take(5));
    }

    static void p03ItIsNotFound() {
        Sentence s = new Sentence(3, "or is not found");
        CoatHooks x = hidden();
        s.changesNothing(STATE, "take of 16", x, () -> x.take(16));
        x.rehang(8, 1);
        s.due("when it is found again", () -> x.take(16), 3);
    }

    static void p03ATicketIsOnItsHook() {
        Sentence s = new Sentence(3, "a ticket is on its hook then");
        CoatHooks x = take(with(3, 0, 0, 2), 0, 2);
        s.list("on the hook 0 and on the last one", statesOf(x), 2, 0, 2);
        s.list("and no coats", coatsOf(x), -1, -1, -1);
        s.list("and no weights", weightsOf(x), 0, 0, 0);
        s.list("on all of them", statesOf(allTickets(3)), 2, 2, 2);
    }

    static void p03TheLightestAndTheHeaviest() {
        Sentence s = new Sentence(3, "Returns its weight.");
        CoatHooks x = new CoatHooks();
        x.hang(0, 1);
        x.hang(8, 99);
        s.due("the lightest", () -> x.take(0), 1);
        s.due("the heaviest, behind a ticket", () -> x.take(8), 99);
    }

    static void p03PastTheLastHook() {
        Sentence s = new Sentence(3, "Returns its weight.");
        CoatHooks x = with(8, 0, 7, 15);
        s.due("the coat on 0 that begins at 7", () -> x.take(15), 2);
        s.list("its ticket", statesOf(x), 2, 0, 0, 0, 0, 0, 0, 1);
        s.due("the last of the longest way", () -> longestWalks().take(1560), 40);
    }

    // ---- 4, rehang

    static void p04TooFewHooks() {
        Sentence s = new Sentence(4, "Throws IllegalArgumentException if hooks is not 3 to 40");
        CoatHooks x = new CoatHooks();
        s.refuses(ARGUMENT, "rehang to hooks", h -> x.rehang(h, 0), 2, 1, 0, -1, LEAST);
        s.due("the least", () -> x.rehang(3, 0), 0);
        s.due("so many there are", () -> x.hooks(), 3);
    }

    static void p04TooManyHooks() {
        Sentence s = new Sentence(4, "Throws IllegalArgumentException if hooks is not 3 to 40");
        CoatHooks x = new CoatHooks();
        s.refuses(ARGUMENT, "rehang to hooks", h -> x.rehang(h, 0), 41, MOST);
        s.due("the most", () -> x.rehang(40, 0), 0);
        s.due("so many there are", () -> x.hooks(), 40);
    }

    static void p04WayTooSmall() {
        Sentence s = new Sentence(4, "or way is not 0 to 2");
        CoatHooks x = with(8, 1);
        s.refuses(ARGUMENT, "rehang by the way", w -> x.rehang(8, w), -1, LEAST);
        s.due("the smallest", () -> x.rehang(8, 0), 0);
        s.due("the way is", () -> x.way(), 0);
    }

    static void p04WayTooLarge() {
        Sentence s = new Sentence(4, "or way is not 0 to 2");
        CoatHooks x = new CoatHooks();
        s.refuses(ARGUMENT, "rehang by the way", w -> x.rehang(8, w), 3, MOST);
        s.due("the largest", () -> x.rehang(8, 2), 0);
        s.due("the way is", () -> x.way(), 2);
    }

    static void p04MoreCoatsThanHooks() {
        Sentence s = new Sentence(4, "Throws IllegalStateException if a coat has no place");
        CoatHooks four = with(8, 0, 0, 1, 2, 3);
        s.changesNothing(STATE, "rehang of 4 coats on 3 hooks", four, () -> four.rehang(3, 0));
        CoatHooks forty = full(40);
        s.changesNothing(STATE, "rehang of 40 coats on 39 hooks", forty, () -> forty.rehang(39, 0));
    }

    static void p04AsManyCoatsAsHooks() {
        Sentence s = new Sentence(4, "Throws IllegalStateException if a coat has no place");
        s.due("3 coats on 3 hooks in a row", () -> with(8, 0, 0, 3, 6).rehang(3, 0), 2);
        s.due("40 coats on 40 hooks in a row", () -> full(40).rehang(40, 0), 0);
    }

    static void p04NoPlaceThoughHooksAreFree() {
        Sentence s = new Sentence(4, "Throws IllegalStateException if a coat has no place");
        CoatHooks triangles = with(8, 0, 0, 3, 6);
        s.changesNothing(STATE, "rehang on 3 hooks by triangles", triangles, () -> triangles.rehang(3, 1));
        // By strides of 2 with 4 hooks 4 and 16 look at 0 and 2 alone.
        CoatHooks strides = with(8, 0, 0, 4, 16);
        s.changesNothing(STATE, "rehang on 4 hooks by strides", strides, () -> strides.rehang(4, 2));
    }

    static void p04WithoutCoats() {
        Sentence s = new Sentence(4, "Returns how many coats hang on hooks with other numbers than before.");
        s.due("no coats", () -> new CoatHooks().rehang(3, 2), 0);
        CoatHooks x = allTickets(40);
        s.due("tickets alone", () -> x.rehang(3, 1), 0);
        s.due("which are gone", () -> x.tickets(), 0);
    }

    static void p04NoneHangsElsewhere() {
        Sentence s = new Sentence(4, "Returns how many coats hang on hooks with other numbers than before.");
        s.due("the same hooks and way", () -> with(8, 0, 0, 8, 16).rehang(8, 0), 0);
        s.due("more hooks", () -> full(3).rehang(40, 2), 0);
        s.due("as many coats as hooks", () -> full(40).rehang(40, 2), 0);
    }

    static void p04AllHangElsewhere() {
        Sentence s = new Sentence(4, "Returns how many coats hang on hooks with other numbers than before.");
        s.due("two that change their hooks", () -> with(8, 0, 7, 15).rehang(8, 0), 2);
        s.due("from the last of 40 hooks to the hook 0", () -> with(40, 0, 39).rehang(3, 0), 1);
        s.due("from the hook 0 to the last of 40", () -> with(3, 0, 39).rehang(40, 0), 1);
        s.due("onto the place of a ticket", () -> take(with(8, 0, 0, 8), 0).rehang(8, 0), 1);
    }

    static void p04OneThatWasNotFound() {
        Sentence s = new Sentence(4, "An intermission: hangs all anew.");
        CoatHooks x = hidden();
        s.due("from 3 to 1", () -> x.rehang(8, 1), 1);
        s.list("coats", coatsOf(x), 0, 16, -1, -1, -1, -1, -1, -1);
        s.due("it is found", () -> x.find(16), 1);
    }

    // ---- 5, sweep

    static void p05WithoutTickets() {
        Sentence s = new Sentence(5, "Returns how many tickets are gone.");
        s.due("all hooks free", () -> new CoatHooks().sweep(), 0);
        s.due("3 coats", () -> full(3).sweep(), 0);
        s.due("40 coats", () -> full(40).sweep(), 0);
        CoatHooks x = with(8, 0, 0, 7);
        s.changesNothing(0, "coats with free hooks", x, () -> x.sweep());
    }

    static void p05AFreeHookBehind() {
        Sentence s = new Sentence(5, "a ticket is gone, if the hook behind its own one is free");
        CoatHooks x = take(with(8, 0, 3, 4), 4);
        s.due("free behind it, a coat ahead of it", () -> x.sweep(), 1);
        s.list("states", statesOf(x), 0, 0, 0, 1, 0, 0, 0, 0);
    }

    static void p05ACoatBehind() {
        Sentence s = new Sentence(5, "a ticket is gone, if the hook behind its own one is free");
        CoatHooks x = take(with(8, 0, 3, 4), 3);
        s.due("a coat behind it, free ahead of it", () -> x.sweep(), 0);
        s.list("states", statesOf(x), 0, 0, 0, 2, 1, 0, 0, 0);
    }

    static void p05TheHook0IsBehindTheLast() {
        Sentence s = new Sentence(5, "(the hook 0 is behind the last one)");
        CoatHooks gone = take(with(8, 0, 6, 7), 7);
        s.due("the hook 0 is free", () -> gone.sweep(), 1);
        s.list("states", statesOf(gone), 0, 0, 0, 0, 0, 0, 1, 0);
        CoatHooks stays = take(with(8, 0, 0, 7), 7);
        s.due("the hook 0 has a coat", () -> stays.sweep(), 0);
        s.list("states", statesOf(stays), 1, 0, 0, 0, 0, 0, 0, 2);
    }

    static void p05OneAfterTheOther() {
        Sentence s = new Sentence(5, "which makes its own one free, and so on, as long as there is such a ticket");
        CoatHooks x = take(with(8, 0, 0, 1, 2, 3, 4), 0, 2, 3, 4);
        s.due("up to the coat on 1", () -> x.sweep(), 3);
        s.list("states", statesOf(x), 2, 1, 0, 0, 0, 0, 0, 0);
    }

    static void p05OneAfterTheOtherPastTheHook0() {
        Sentence s = new Sentence(5, "and so on, as long as there is such a ticket");
        CoatHooks x = take(with(8, 0, 5, 6, 7, 0, 1), 6, 7, 0, 1);
        s.due("from 1 back to 6", () -> x.sweep(), 4);
        s.list("states", statesOf(x), 0, 0, 0, 0, 0, 1, 0, 0);
    }

    static void p05AllHooksButOne() {
        Sentence s = new Sentence(5, "and so on, as long as there is such a ticket");
        for (int open = 0; open < 40; open++) {
            CoatHooks x = new CoatHooks();
            x.rehang(40, 0);
            for (int step = 1; step < 40; step++) {
                int number = (open + step) % 40;
                x.hang(number, 1);
                x.take(number);
            }
            s.due("tickets on all hooks but " + open, () -> x.sweep(), 39);
            s.due("none is left but " + open, () -> x.tickets(), 0);
        }
    }

    static void p05AllHooksHaveTickets() {
        Sentence s = new Sentence(5, "and if all hooks have tickets, all of them are gone");
        CoatHooks three = allTickets(3);
        s.due("3 tickets", () -> three.sweep(), 3);
        s.list("states", statesOf(three), 0, 0, 0);
        CoatHooks forty = allTickets(40);
        s.due("40 tickets", () -> forty.sweep(), 40);
        s.due("none is left", () -> forty.tickets(), 0);
        s.due("40 hooks stay", () -> forty.hooks(), 40);
    }

    static void p05NoHookIsFreeAndOneHasACoat() {
        Sentence s = new Sentence(5, "and if all hooks have tickets, all of them are gone");
        for (int stays = 0; stays < 3; stays++) {
            CoatHooks x = full(3);
            take(x, (stays + 1) % 3, (stays + 2) % 3);
            s.due("all but the coat on " + stays, () -> x.sweep(), 0);
            s.due("both are left", () -> x.tickets(), 2);
        }
    }

    static void p05ASecondTime() {
        Sentence s = new Sentence(5, "Returns how many tickets are gone.");
        CoatHooks x = allTickets(3);
        x.sweep();
        s.due("none of them again", () -> x.sweep(), 0);
    }

    static void p05CoatsMayNotBeFoundThen() {
        Sentence s = new Sentence(5, "(Coats may not be found then, though they hang.)");
        CoatHooks x = take(with(8, 1, 0, 8, 16), 8);
        s.due("before", () -> x.find(16), 3);
        s.due("the ticket on 1 is gone", () -> x.sweep(), 1);
        s.due("after", () -> x.find(16), -1);
        s.due("it hangs", () -> x.coatAt(3), 16);
        s.due("and counts", () -> x.coats(), 2);
    }

    public static void main(String[] args) throws IllegalAccessException {
        Sentence.runAll(CoatsBoundariesTest.class);
    }
}
