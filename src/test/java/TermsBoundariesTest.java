/** The boundary cases that 'What it is', 'The public face' and 'Terms' name, each with a test of its own. */
public final class TermsBoundariesTest extends Theatres {
    // Of the calls whose heads in the face name no exception.
    private static final String NO_EXCEPTION =
        "A call of the face throws exactly what and where the document says";

    // ---- what it is

    static void theCall512IsAnsweredToo() {
        Sentence s = new Sentence("What it is",
            "An object is used for at most 512 calls after it has been made");
        CoatHooks x = new CoatHooks();
        for (int round = 0; round < 255; round++) {
            s.due("hang in round " + round, () -> x.hang(5, 99), 5);
            s.due("take in round " + round, () -> x.take(5), 99);
        }
        s.due("the call 511", () -> x.hang(5, 7), 5);
        s.due("the call 512", () -> x.weight(), 7);
    }

    // ---- the public face

    static void noExceptionOfAnEmptyTheatre() {
        Sentence s = new Sentence("The public face", NO_EXCEPTION);
        noneThrows(s, "no coats", new CoatHooks());
    }

    static void noExceptionOfAFullTheatre() {
        Sentence s = new Sentence("The public face", NO_EXCEPTION);
        noneThrows(s, "40 coats", full(40));
        noneThrows(s, "40 coats that begin at one hook", longestWalks());
        noneThrows(s, "3 coats", full(3));
    }

    static void noExceptionWhereAllAreTickets() {
        Sentence s = new Sentence("The public face", NO_EXCEPTION);
        noneThrows(s, "40 tickets", allTickets(40));
        noneThrows(s, "3 tickets", allTickets(3));
    }

    static void noExceptionWhereACoatIsNotFound() {
        Sentence s = new Sentence("The public face", NO_EXCEPTION);
        noneThrows(s, "a coat that is not found", hidden());
    }

    private static void noneThrows(Sentence s, String where, CoatHooks x) {
        Due.Call[] calls = {() -> x.hooks(), () -> x.way(), () -> x.coats(), () -> x.tickets(), () -> x.weight(),
            () -> x.heaviestAt(), () -> x.allLooks(), () -> x.farthest(), () -> x.rows(), () -> x.longestRow(),
            () -> x.bestWay(), () -> x.meanLooks(), () -> x.digest(), () -> x.sweep()};
        for (int i = 0; i < calls.length; i++) {
            Object got = Due.outcome(calls[i]);
            s.due("the call " + i + " with " + where + " answers a number", () -> got instanceof Number, true);
        }
    }

    // ---- numbers

    static void dividingIsCut() {
        Sentence s = new Sentence("Terms", "All numbers are whole, and / is cut towards 0");
        CoatHooks x = with(8, 2);
        s.due("7 / 8 is 0: the stride 1", () -> x.lookedAt(7, 1), 0);
        s.due("8 / 8 is 1: the stride 2", () -> x.lookedAt(8, 1), 2);
        s.due("11 / 8 is 1: the stride 2", () -> x.lookedAt(11, 1), 5);
        s.due("15 / 8 is 1: the stride 2", () -> x.lookedAt(15, 1), 1);
        s.due("16 / 8 is 2: the stride 3", () -> x.lookedAt(16, 1), 3);
    }

    static void theRestOfDividing() {
        Sentence s = new Sentence("Terms", "a % b is the rest of dividing a by b");
        CoatHooks x = new CoatHooks();
        s.due("0 % 8", () -> x.lookedAt(0, 0), 0);
        s.due("7 % 8", () -> x.lookedAt(7, 0), 7);
        s.due("8 % 8", () -> x.lookedAt(8, 0), 0);
        s.due("9999 % 8", () -> x.lookedAt(9999, 0), 7);
    }

    // ---- hooks

    static void notUnder3Hooks() {
        Sentence s = new Sentence("Terms, Hooks", "There are 3 to 40 of them");
        CoatHooks x = new CoatHooks();
        s.changesNothing(ARGUMENT, "2 hooks", x, () -> x.rehang(2, 0));
        s.due("3 hooks", () -> x.rehang(3, 0), 0);
        s.due("so many there are", () -> x.hooks(), 3);
    }

    static void notOver40Hooks() {
        Sentence s = new Sentence("Terms, Hooks", "There are 3 to 40 of them");
        CoatHooks x = new CoatHooks();
        s.changesNothing(ARGUMENT, "41 hooks", x, () -> x.rehang(41, 0));
        s.due("40 hooks", () -> x.rehang(40, 0), 0);
        s.due("so many there are", () -> x.hooks(), 40);
    }

    static void eightHooksAtFirst() {
        Sentence s = new Sentence("Terms, Hooks", "(8, at first)");
        CoatHooks x = new CoatHooks();
        s.due("hooks", () -> x.hooks(), 8);
        s.due("the last hook", () -> x.stateOf(7), 0);
        s.due("none behind it", () -> x.stateOf(8), INDEX);
    }

    static void numberedFrom0() {
        Sentence s = new Sentence("Terms, Hooks", "numbered from 0");
        CoatHooks x = full(3);
        s.due("no hook -1", () -> x.coatAt(-1), INDEX);
        s.due("the hook 0", () -> x.coatAt(0), 0);
        s.due("the last hook", () -> x.coatAt(2), 2);
        s.due("no hook 3", () -> x.coatAt(3), INDEX);
    }

    static void eachHookIsFreeAtFirst() {
        Sentence s = new Sentence("Terms, Hooks", "each is free (at first)");
        s.list("states", statesOf(new CoatHooks()), 0, 0, 0, 0, 0, 0, 0, 0);
    }

    static void aHookHasACoatOrATicket() {
        Sentence s = new Sentence("Terms, Hooks", "has a coat, or has a ticket");
        CoatHooks x = new CoatHooks();
        x.hang(7, 3);
        s.list("with a coat on the last hook", statesOf(x), 0, 0, 0, 0, 0, 0, 0, 1);
        x.take(7);
        s.list("with a ticket, without a coat", statesOf(x), 0, 0, 0, 0, 0, 0, 0, 2);
        x.hang(15, 3);
        s.list("with a coat, without a ticket", statesOf(x), 0, 0, 0, 0, 0, 0, 0, 1);
    }

    // ---- coats

    static void noNumberUnder0() {
        Sentence s = new Sentence("Terms, Coats", "Each has a number, 0 to 9999");
        CoatHooks x = new CoatHooks();
        s.changesNothing(ARGUMENT, "the number -1", x, () -> x.hang(-1, 1));
        s.due("the number 0", () -> x.hang(0, 1), 0);
        s.due("its number", () -> x.coatAt(0), 0);
    }

    static void noNumberOver9999() {
        Sentence s = new Sentence("Terms, Coats", "Each has a number, 0 to 9999");
        CoatHooks x = new CoatHooks();
        s.changesNothing(ARGUMENT, "the number 10000", x, () -> x.hang(10000, 1));
        s.due("the number 9999", () -> x.hang(9999, 1), 7);
        s.due("its number", () -> x.coatAt(7), 9999);
    }

    static void noNumberTwice() {
        Sentence s = new Sentence("Terms, Coats", "which no other coat that hangs has");
        CoatHooks x = with(8, 0, 5);
        s.changesNothing(STATE, "the same coat again", x, () -> x.hang(5, 1));
        s.changesNothing(STATE, "with another weight", x, () -> x.hang(5, 2));
        CoatHooks unseen = hidden();
        s.changesNothing(STATE, "one that hangs, but is not found", unseen, () -> unseen.hang(16, 1));
    }

    static void aTakenNumberComesAgain() {
        Sentence s = new Sentence("Terms, Coats", "which no other coat that hangs has");
        CoatHooks x = take(with(8, 0, 5), 5);
        s.due("it does not hang any more", () -> x.hang(5, 44), 5);
        s.due("its weight of now", () -> x.weightAt(5), 44);
    }

    static void noWeightUnder1() {
        Sentence s = new Sentence("Terms, Coats", "a weight, 1 to 99");
        CoatHooks x = new CoatHooks();
        s.changesNothing(ARGUMENT, "the weight 0", x, () -> x.hang(3, 0));
        s.due("the weight 1", () -> x.hang(3, 1), 3);
        s.due("its weight", () -> x.weightAt(3), 1);
    }

    static void noWeightOver99() {
        Sentence s = new Sentence("Terms, Coats", "a weight, 1 to 99");
        CoatHooks x = new CoatHooks();
        s.changesNothing(ARGUMENT, "the weight 100", x, () -> x.hang(3, 100));
        s.due("the weight 99", () -> x.hang(3, 99), 3);
        s.due("its weight", () -> x.weightAt(3), 99);
    }

    // ---- the ways

    static void theWay0AtFirst() {
        Sentence s = new Sentence("Terms, The ways", "The ways (0, at first).");
        CoatHooks x = new CoatHooks();
        s.due("way", () -> x.way(), 0);
        s.due("in a row the step 2 is 2 further", () -> x.lookedAt(8, 2), 2);
    }

    static void stepsFrom0On() {
        Sentence s = new Sentence("Terms, The ways", "the one looked at as the step k, from 0 on");
        for (int way = 0; way <= 2; way++) {
            CoatHooks x = with(40, way);
            s.due("the step 0 by the way " + way, () -> x.lookedAt(9999, 0), 39);
            s.due("the first of the looks by the way " + way, () -> x.placeFor(9999), 39);
        }
    }

    static void inARowPastTheLastHook() {
        Sentence s = new Sentence("Terms, The ways", "0, in a row: (n + k) % h.");
        CoatHooks x = with(8, 0, 7);
        s.due("from the last hook to 0", () -> x.lookedAt(15, 1), 0);
        s.due("a coat comes on 0", () -> x.hang(15, 1), 0);
        s.due("several times round", () -> x.lookedAt(7, 39), 6);
        CoatHooks three = with(3, 0);
        s.due("least hooks, most steps, highest number", () -> three.lookedAt(9999, 39), 0);
        CoatHooks forty = with(40, 0);
        s.due("most hooks, most steps, highest number", () -> forty.lookedAt(9999, 39), 38);
    }

    static void byTrianglesPastTheLastHook() {
        Sentence s = new Sentence("Terms, The ways", "1, by triangles: (n + k * (k + 1) / 2) % h.");
        CoatHooks x = with(8, 1, 7, 15);
        s.due("from the last hook to 0", () -> x.lookedAt(23, 1), 0);
        s.due("and to 2", () -> x.lookedAt(23, 2), 2);
        s.due("a coat comes on 2", () -> x.hang(23, 1), 2);
        CoatHooks three = with(3, 1);
        s.due("9999 + 780 with 3 hooks", () -> three.lookedAt(9999, 39), 0);
        CoatHooks forty = with(40, 1);
        s.due("9999 + 780 with 40 hooks", () -> forty.lookedAt(9999, 39), 19);
    }

    static void byStridesPastTheLastHook() {
        Sentence s = new Sentence("Terms, The ways", "2, by strides: (n + k * (1 + (n / h) % (h - 1))) % h.");
        CoatHooks x = with(8, 2, 7, 15);
        s.due("the stride 2 from the last hook to 1", () -> x.coatAt(1), 15);
        s.due("several times round", () -> x.lookedAt(15, 39), 5);
        CoatHooks three = with(3, 2);
        s.due("9999 / 3 is odd: the stride 2", () -> three.lookedAt(9999, 39), 0);
        CoatHooks forty = with(40, 2);
        s.due("249 % 39 is 15: the stride 16", () -> forty.lookedAt(9999, 39), 23);
    }

    static void theLongestAndTheShortestStride() {
        Sentence s = new Sentence("Terms, The ways", "(1 + (n / h) % (h - 1))");
        CoatHooks x = with(8, 2);
        s.due("48 / 8 is 6: the stride 7", () -> x.lookedAt(48, 1), 7);
        s.due("56 / 8 is 7: the stride 1 again", () -> x.lookedAt(56, 1), 1);
        CoatHooks three = with(3, 2);
        s.due("3 / 3 is 1: the stride 2", () -> three.lookedAt(3, 1), 2);
        s.due("6 / 3 is 2: the stride 1 again", () -> three.lookedAt(6, 1), 1);
        CoatHooks forty = with(40, 2);
        s.due("1520 / 40 is 38: the stride 39", () -> forty.lookedAt(1520, 1), 39);
        s.due("1560 / 40 is 39: the stride 1 again", () -> forty.lookedAt(1560, 1), 1);
    }

    static void noMoreLooksThanHooks() {
        Sentence s = new Sentence("Terms, The ways", "The usher looks at h hooks at the most");
        s.due("3 coats", () -> full(3).looksFor(3), 3);
        s.due("3 tickets", () -> allTickets(3).looksFor(3), 3);
        s.due("40 coats", () -> full(40).looksFor(40), 40);
        s.due("40 tickets", () -> allTickets(40).looksFor(40), 40);
    }

    static void oneHookSeveralTimes() {
        Sentence s = new Sentence("Terms, The ways", "some of them several times perhaps");
        s.due("by triangles 0, 1 and 0", () -> unseenHook().looksFor(6), 3);
        // 4 / 4 and 16 / 4 % 3 are 1: the strides of 4 and 16 are 2.
        s.due("by strides 0, 2, 0 and 2", () -> with(4, 2, 0, 4).looksFor(16), 4);
    }

    // ---- looking for a coat

    static void theUsherStopsAtTheCoat() {
        Sentence s = new Sentence("Terms, Looking for a coat", "the usher stops at the hook with this coat");
        CoatHooks x = take(with(3, 0, 0, 3, 6), 0, 3);
        s.due("on the last hook that is looked at", () -> x.find(6), 2);
        s.due("past tickets alone", () -> x.looksFor(6), 3);
        CoatHooks first = with(3, 0, 0, 3, 6);
        s.due("in the first step", () -> first.looksFor(0), 1);
        s.due("in the second step", () -> first.looksFor(3), 2);
    }

    static void theUsherStopsAtAFreeHook() {
        Sentence s = new Sentence("Terms, Looking for a coat", "or at one that is free");
        s.due("in the first step", () -> with(8, 0, 0).looksFor(9), 1);
        s.due("the last one of all", () -> with(3, 0, 0, 1).looksFor(3), 3);
        s.due("ahead of the coat, which is not found then", () -> hidden().find(16), -1);
        s.due("the looks up to it", () -> hidden().looksFor(16), 2);
    }

    static void theUsherStopsHavingLookedAtAll() {
        Sentence s = new Sentence("Terms, Looking for a coat", "or having looked at h");
        s.due("no coat with it among 3", () -> full(3).find(9999), -1);
        s.due("3 looks", () -> full(3).looksFor(9999), 3);
        s.due("no coat with it among 40", () -> full(40).find(9999), -1);
        s.due("40 looks", () -> full(40).looksFor(9999), 40);
    }

    // ---- hanging a coat

    static void aCoatThatHangsIsRefused() {
        Sentence s = new Sentence("Terms, Hanging a coat", "If it hangs, it is refused.");
        CoatHooks x = take(with(8, 0, 0, 8), 0);
        s.changesNothing(STATE, "it hangs behind a ticket", x, () -> x.hang(8, 1));
        CoatHooks last = with(3, 0, 0, 1, 3);
        s.changesNothing(STATE, "it hangs on the last hook that is looked at", last, () -> last.hang(3, 1));
    }

    static void theFirstTicketOfThoseLookedAt() {
        Sentence s = new Sentence("Terms, Hanging a coat",
            "Otherwise the hook on which it comes is the first one with a ticket of those looked at");
        CoatHooks x = take(with(8, 0, 7, 15, 23), 7, 15);
        s.due("of the tickets on 7 and 0 that on 7", () -> x.hang(31, 1), 7);
        s.due("then that on 0", () -> x.hang(39, 1), 0);
        s.due("then the free hook 2", () -> x.hang(47, 1), 2);
    }

    static void theTicketIsGone() {
        Sentence s = new Sentence("Terms, Hanging a coat", "which is gone then");
        CoatHooks x = take(with(8, 0, 0, 8), 0, 8);
        x.hang(16, 1);
        s.list("the other one stays", statesOf(x), 1, 2, 0, 0, 0, 0, 0, 0);
        CoatHooks all = allTickets(3);
        all.hang(5, 1);
        s.list("of tickets on all hooks", statesOf(all), 2, 2, 1);
    }

    static void aTicketThatIsNotLookedAt() {
        Sentence s = new Sentence("Terms, Hanging a coat", "of those looked at");
        CoatHooks behind = take(with(8, 0, 0, 2), 2);
        s.due("the usher has stopped ahead of it", () -> behind.hang(8, 1), 1);
        CoatHooks never = take(with(3, 1, 0, 3, 2), 2);
        s.changesNothing(STATE, "the usher does not come to it", never, () -> never.hang(6, 1));
    }

    static void theFreeHookAtWhichTheUsherStopped() {
        Sentence s = new Sentence("Terms, Hanging a coat",
            "if there is none, the free one at which the usher stopped");
        s.due("the first one", () -> with(8, 0).hang(8, 1), 0);
        s.due("the last one of all", () -> with(3, 0, 1, 2).hang(4, 1), 0);
        // By triangles with 4 hooks an usher looks for 12 on 0, 1, 3 and 2.
        s.due("in the last step", () -> with(4, 1, 0, 4, 8).hang(12, 1), 2);
    }

    static void noPlaceWithoutTicketAndFreeHook() {
        Sentence s = new Sentence("Terms, Hanging a coat", "if there is neither, there is no place");
        CoatHooks three = full(3);
        s.changesNothing(STATE, "3 coats", three, () -> three.hang(3, 1));
        CoatHooks forty = full(40);
        s.changesNothing(STATE, "40 coats", forty, () -> forty.hang(40, 1));
        CoatHooks x = unseenHook();
        s.changesNothing(STATE, "a free hook that is not looked at", x, () -> x.hang(6, 1));
    }

    // ---- hanging all anew

    static void hooksAndWayAreAsTold() {
        Sentence s = new Sentence("Terms, Hanging all anew", "hooks and way are as told");
        CoatHooks x = new CoatHooks();
        s.due("most hooks, without coats", () -> x.rehang(40, 2), 0);
        s.due("hooks", () -> x.hooks(), 40);
        s.due("way", () -> x.way(), 2);
        s.due("least hooks, without coats", () -> x.rehang(3, 0), 0);
        s.due("hooks", () -> x.hooks(), 3);
        s.due("way", () -> x.way(), 0);
    }

    static void allHooksAreFreeBefore() {
        Sentence s = new Sentence("Terms, Hanging all anew", "all hooks free");
        CoatHooks x = allTickets(3);
        s.due("tickets on all hooks", () -> x.rehang(3, 0), 0);
        s.list("states", statesOf(x), 0, 0, 0);
        CoatHooks wide = with(40, 0, 39);
        wide.rehang(3, 0);
        wide.rehang(40, 0);
        s.due("nothing of earlier is left on the last hook", () -> wide.coats(), 1);
        s.due("but what is hung there anew", () -> wide.coatAt(39), 39);
    }

    static void byTheHooksFrom0On() {
        Sentence s = new Sentence("Terms, Hanging all anew",
            "then the coats are hung, one by one, by the numbers of the hooks on which they hung, from 0 on");
        CoatHooks x = with(8, 0, 7, 15);
        x.rehang(8, 0);
        s.list("that on 0 comes first, that on the last hook last", coatsOf(x), 7, -1, -1, -1, -1, -1, -1, 15);
        // With 8 hooks 6, 14 and 22 hang on 6, 7 and 0: 22 comes first, and then 6 and 14.
        CoatHooks three = with(8, 0, 6, 14, 22);
        three.rehang(8, 0);
        s.list("past the last hook", coatsOf(three), 14, -1, -1, -1, -1, -1, 22, 6);
    }

    static void allIsAsItWas() {
        Sentence s = new Sentence("Terms, Hanging all anew", "If one of them has no place, all is as it was.");
        CoatHooks x = take(with(8, 0, 0, 1, 2, 3, 4), 2);
        s.changesNothing(STATE, "the last of 4 coats with 3 hooks", x, () -> x.rehang(3, 0));
        s.changesNothing(STATE, "by triangles", x, () -> x.rehang(3, 1));
        s.changesNothing(STATE, "by strides", x, () -> x.rehang(3, 2));
        CoatHooks forty = full(40);
        s.changesNothing(STATE, "the last of 40 coats with 39 hooks", forty, () -> forty.rehang(39, 0));
    }

    // ---- exceptions

    static void hangThatThrowsChangesNothing() {
        Sentence s = new Sentence("Terms", "A method that throws an exception changes nothing.");
        CoatHooks x = take(with(3, 1, 0, 3, 2), 3);
        s.changesNothing(ARGUMENT, "hang of a number too small", x, () -> x.hang(-1, 50));
        s.changesNothing(ARGUMENT, "hang of a number too large", x, () -> x.hang(10000, 50));
        s.changesNothing(ARGUMENT, "hang of a weight too small", x, () -> x.hang(6, 0));
        s.changesNothing(ARGUMENT, "hang of a weight too large", x, () -> x.hang(6, 100));
        s.changesNothing(STATE, "hang of a coat that hangs", x, () -> x.hang(0, 50));
        x.hang(3, 2);
        s.changesNothing(STATE, "hang without a place", x, () -> x.hang(6, 50));
    }

    static void takeThatThrowsChangesNothing() {
        Sentence s = new Sentence("Terms", "A method that throws an exception changes nothing.");
        CoatHooks x = hidden();
        s.changesNothing(ARGUMENT, "take of a number too small", x, () -> x.take(-1));
        s.changesNothing(ARGUMENT, "take of a number too large", x, () -> x.take(10000));
        s.changesNothing(STATE, "take of a coat that does not hang", x, () -> x.take(8));
        s.changesNothing(STATE, "take of a coat that is not found", x, () -> x.take(16));
    }

    static void rehangThatThrowsChangesNothing() {
        Sentence s = new Sentence("Terms", "A method that throws an exception changes nothing.");
        CoatHooks x = take(with(8, 2, 0, 1, 2, 3, 4), 2);
        s.changesNothing(ARGUMENT, "rehang to too few hooks", x, () -> x.rehang(2, 0));
        s.changesNothing(ARGUMENT, "rehang to too many hooks", x, () -> x.rehang(41, 0));
        s.changesNothing(ARGUMENT, "rehang by a way too small", x, () -> x.rehang(9, -1));
        s.changesNothing(ARGUMENT, "rehang by a way too large", x, () -> x.rehang(9, 3));
        s.changesNothing(STATE, "rehang of a coat without a place", x, () -> x.rehang(3, 0));
    }

    static void askingThatThrowsChangesNothing() {
        Sentence s = new Sentence("Terms", "A method that throws an exception changes nothing.");
        CoatHooks x = take(with(8, 2, 0, 1, 2, 3, 4), 2);
        s.changesNothing(INDEX, "stateOf", x, () -> x.stateOf(8));
        s.changesNothing(INDEX, "coatAt", x, () -> x.coatAt(8));
        s.changesNothing(INDEX, "weightAt", x, () -> x.weightAt(8));
        s.changesNothing(INDEX, "rowAt", x, () -> x.rowAt(8));
        s.changesNothing(ARGUMENT, "find", x, () -> x.find(10000));
        s.changesNothing(ARGUMENT, "looksFor", x, () -> x.looksFor(10000));
        s.changesNothing(ARGUMENT, "placeFor", x, () -> x.placeFor(10000));
        s.changesNothing(ARGUMENT, "lookedAt", x, () -> x.lookedAt(0, 40));
        s.changesNothing(ARGUMENT, "looksWith", x, () -> x.looksWith(41, 0));
        s.changesNothing(ARGUMENT, "hooksWanted", x, () -> x.hooksWanted(401));
    }

    static void hangThrowsTheOneNamedFirst() {
        Sentence s = new Sentence("Terms",
            "If several exceptions apply, the one that is named first is thrown.");
        CoatHooks x = full(3);
        s.due("it hangs, and its weight is too small", () -> x.hang(1, 0), ARGUMENT);
        s.due("it hangs, and its weight is too large", () -> x.hang(1, 100), ARGUMENT);
        s.due("it has no place, and its weight is too small", () -> x.hang(5, 0), ARGUMENT);
        s.due("it has no place, and its weight is too large", () -> x.hang(5, 100), ARGUMENT);
        s.due("it has no place, and its number is too small", () -> x.hang(-1, 1), ARGUMENT);
        s.due("it has no place, and its number is too large", () -> x.hang(10000, 1), ARGUMENT);
    }

    static void takeThrowsTheOneNamedFirst() {
        Sentence s = new Sentence("Terms",
            "If several exceptions apply, the one that is named first is thrown.");
        CoatHooks x = full(3);
        s.due("it does not hang, and its number is too small", () -> x.take(-1), ARGUMENT);
        s.due("it does not hang, and its number is too large", () -> x.take(10000), ARGUMENT);
        CoatHooks empty = new CoatHooks();
        s.due("nor does any coat, too small", () -> empty.take(-1), ARGUMENT);
        s.due("nor does any coat, too large", () -> empty.take(10000), ARGUMENT);
    }

    static void rehangThrowsTheOneNamedFirst() {
        Sentence s = new Sentence("Terms",
            "If several exceptions apply, the one that is named first is thrown.");
        CoatHooks x = full(8);
        s.due("no place, and too few hooks", () -> x.rehang(2, 0), ARGUMENT);
        s.due("no place, and a way too small", () -> x.rehang(3, -1), ARGUMENT);
        s.due("no place, and a way too large", () -> x.rehang(3, 3), ARGUMENT);
    }

    public static void main(String[] args) throws IllegalAccessException {
        Sentence.runAll(TermsBoundariesTest.class);
    }
}
