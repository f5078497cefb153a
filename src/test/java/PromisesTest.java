/** Each promise of the document: ordinary inputs, the edges that it names, wrong inputs. */
public final class PromisesTest extends Theatres {
    private static final int[] NO_NUMBERS = {-1, 10000, Integer.MIN_VALUE, Integer.MAX_VALUE};
    private static final int[] NO_COUNTS = {2, 41, 0, -3, Integer.MIN_VALUE, Integer.MAX_VALUE};
    private static final int[] NO_WAYS = {-1, 3, Integer.MIN_VALUE, Integer.MAX_VALUE};

    private static void due(String what, Due.Call call, Object answer) {
        Due.answer(what, Due.outcome(call), answer);
    }

    private static void p1NewObject() {
        CoatHooks x = new CoatHooks();
        Due.answer("p1 hooks", x.hooks(), 8);
        Due.answer("p1 way", x.way(), 0);
        Due.list("p1 states", statesOf(x), 0, 0, 0, 0, 0, 0, 0, 0);
        x.hang(3, 9);
        Due.answer("p1 one object does not change another", new CoatHooks().coats(), 0);
    }

    private static void p2Hang() {
        CoatHooks x = new CoatHooks();
        due("p2 its own hook", () -> x.hang(11, 1), 3);
        due("p2 the next one", () -> x.hang(3, 99), 4);
        due("p2 lowest number, highest weight", () -> x.hang(0, 99), 0);
        due("p2 highest number", () -> x.hang(9999, 1), 7);
        due("p2 from the last hook on to 0 and on", () -> x.hang(7, 2), 1);
        due("p2 it hangs", () -> x.hang(3, 5), STATE);
        Due.answer("p2 the refused one has its weight", x.weightAt(4), 99);
        for (int bad : NO_NUMBERS) {
            due("p2 number " + bad, () -> x.hang(bad, 1), ARGUMENT);
            due("p2 number and weight " + bad, () -> x.hang(bad, 0), ARGUMENT);
        }
        for (int bad : new int[] {0, 100, -1, Integer.MIN_VALUE, Integer.MAX_VALUE}) {
            due("p2 weight " + bad, () -> x.hang(5, bad), ARGUMENT);
            due("p2 weight of one that hangs " + bad, () -> x.hang(3, bad), ARGUMENT);
        }
        Due.list("p2 coats", coatsOf(x), 0, 7, -1, 11, 3, -1, -1, 9999);
    }

    private static void p2HangOnTickets() {
        CoatHooks x = take(with(8, 0, 0, 8, 16, 24), 8, 16);
        due("p2 the first ticket, not the free one", () -> x.hang(32, 1), 1);
        due("p2 it hangs behind a ticket", () -> x.hang(24, 1), STATE);
        Due.list("p2 the ticket is gone", statesOf(x), 1, 1, 2, 1, 0, 0, 0, 0);
        due("p2 a ticket on its own hook", () -> x.hang(2, 1), 2);
        CoatHooks full = take(with(3, 0, 0, 1, 2), 1);
        due("p2 a ticket where no hook is free", () -> full.hang(3, 1), 1);
        // With 9 hooks the strides of 109 and 181 are 5, and that of 28 is 4; all start at 1.
        CoatHooks strides = take(with(9, 2, 100, 109, 118), 109);
        due("p2 by strides past the ticket", () -> strides.hang(28, 4), 5);
        due("p2 by strides on the ticket", () -> strides.hang(181, 4), 6);
    }

    private static void p2HangWithoutPlace() {
        CoatHooks full = with(3, 0, 5, 6, 7);
        due("p2 no hook is free", () -> full.hang(0, 1), STATE);
        Due.list("p2 nothing is changed", coatsOf(full), 6, 7, 5);
        // By triangles an usher with 3 hooks looks at n, n + 1 and n + 3.
        CoatHooks x = with(3, 1, 0, 3);
        due("p2 the usher does not look at the free hook", () -> x.hang(6, 1), STATE);
        Due.answer("p2 it is still free", x.stateOf(2), 0);
        due("p2 another coat comes on it", () -> x.hang(1, 1), 2);
        // By triangles with 4 hooks all are looked at: 0, 1, 3, 2.
        CoatHooks four = with(4, 1, 0, 4, 8);
        due("p2 in the last step", () -> four.hang(12, 1), 2);
        // By strides of 2 with 4 hooks: 0, 2, 0, 2.
        CoatHooks strides = with(4, 2, 0, 4);
        due("p2 strides that come back", () -> strides.hang(16, 1), STATE);
        CoatHooks unseen = hidden();
        due("p2 it hangs, though it is not found", () -> unseen.hang(16, 1), STATE);
        Due.list("p2 nothing is changed", coatsOf(unseen), 0, -1, -1, 16, -1, -1, -1, -1);
    }

    private static void p2HangsUnseenOnHook0() {
        // By triangles 5, 13 and 21 hang on 5, 6 and 0; then the ticket on 6 is swept.
        CoatHooks x = take(with(8, 1, 5, 13, 21), 13);
        x.sweep();
        Due.answer("p2 hangs on 0, not found", x.find(21), -1);
        due("p2 hangs on 0, though it is not found", () -> x.hang(21, 1), STATE);
    }

    private static void p3Take() {
        CoatHooks x = with(8, 0, 0, 8, 16);
        due("p3 its weight", () -> x.take(8), 2);
        Due.list("p3 a ticket on its hook", statesOf(x), 1, 2, 1, 0, 0, 0, 0, 0);
        Due.answer("p3 no coat is there", x.coatAt(1), -1);
        Due.answer("p3 no weight is there", x.weightAt(1), 0);
        due("p3 taken already", () -> x.take(8), STATE);
        due("p3 never hung", () -> x.take(5), STATE);
        due("p3 behind a ticket", () -> x.take(16), 3);
        for (int bad : NO_NUMBERS) {
            due("p3 number " + bad, () -> x.take(bad), ARGUMENT);
        }
        Due.list("p3 nothing is changed", statesOf(x), 1, 2, 2, 0, 0, 0, 0, 0);
        due("p3 the lowest number", () -> x.take(0), 1);
        CoatHooks full = with(3, 0, 9997, 9998, 9999);
        due("p3 not among all hooks", () -> full.take(0), STATE);
        due("p3 the highest number", () -> full.take(9999), 3);
        CoatHooks unseen = hidden();
        due("p3 it hangs, but is not found", () -> unseen.take(16), STATE);
        Due.answer("p3 it hangs on", unseen.coatAt(3), 16);
    }

    private static void p4Rehang() {
        CoatHooks x = take(with(8, 0, 0, 8, 16), 8);
        due("p4 one hangs elsewhere", () -> x.rehang(11, 0), 1);
        Due.list("p4 coats", coatsOf(x), 0, -1, -1, -1, -1, 16, -1, -1, -1, -1, -1);
        Due.answer("p4 no tickets", x.tickets(), 0);
        Due.answer("p4 the weights", x.weightAt(0) * 100 + x.weightAt(5), 103);
        due("p4 by another way", () -> x.rehang(8, 2), 1);
        Due.list("p4 by strides of 3", coatsOf(x), 0, -1, -1, 16, -1, -1, -1, -1);
        Due.answer("p4 way", x.way(), 2);
        due("p4 the same again", () -> x.rehang(8, 2), 0);
        // Not in the order in which they came: that on the hook 0 is hung first.
        CoatHooks turned = with(8, 0, 7, 15);
        due("p4 by the hooks on which they hung", () -> turned.rehang(8, 0), 2);
        Due.list("p4 the two have changed", coatsOf(turned), 7, -1, -1, -1, -1, -1, -1, 15);
        CoatHooks wide = with(40, 0, 39);
        due("p4 from most hooks to least", () -> wide.rehang(3, 0), 1);
        due("p4 a hook that was", () -> wide.stateOf(3), INDEX);
        due("p4 from least hooks to most", () -> wide.rehang(40, 1), 1);
        Due.answer("p4 back", wide.coatAt(39), 39);
        CoatHooks unseen = hidden();
        due("p4 one that was not found", () -> unseen.rehang(8, 1), 1);
        Due.answer("p4 it is found", unseen.find(16), 1);
    }

    private static void p4RehangRefused() {
        CoatHooks x = take(with(8, 0, 0, 3, 6, 1), 1);
        for (int bad : NO_COUNTS) {
            due("p4 hooks " + bad, () -> x.rehang(bad, 0), ARGUMENT);
        }
        for (int bad : NO_WAYS) {
            due("p4 way " + bad, () -> x.rehang(8, bad), ARGUMENT);
        }
        due("p4 no place by triangles", () -> x.rehang(3, 1), STATE);
        due("p4 no place, and a wrong way", () -> x.rehang(3, 3), ARGUMENT);
        Due.answer("p4 hooks are as they were", x.hooks(), 8);
        Due.answer("p4 the way is as it was", x.way(), 0);
        Due.list("p4 coats are as they were", coatsOf(x), 0, -1, -1, 3, -1, -1, 6, -1);
        Due.list("p4 tickets are as they were", statesOf(x), 1, 2, 0, 1, 0, 0, 1, 0);
        Due.answer("p4 weights are as they were", x.weight(), 6);
        CoatHooks four = with(8, 0, 0, 1, 2, 3);
        due("p4 more coats than hooks", () -> four.rehang(3, 0), STATE);
        due("p4 as many coats as hooks", () -> four.rehang(4, 0), 0);
    }

    private static void p5Sweep() {
        CoatHooks x = with(8, 0, 0, 1, 2, 3, 4);
        due("p5 no tickets", () -> x.sweep(), 0);
        take(x, 1);
        due("p5 a coat is behind it", () -> x.sweep(), 0);
        Due.answer("p5 it stays", x.stateOf(1), 2);
        take(x, 3, 4);
        due("p5 one after the other", () -> x.sweep(), 2);
        Due.list("p5 states", statesOf(x), 1, 2, 1, 0, 0, 0, 0, 0);
        Due.answer("p5 nothing weighs there", x.weightAt(3) + x.weightAt(4), 0);
        due("p5 none is left", () -> x.sweep(), 0);
        CoatHooks ahead = take(with(8, 0, 1, 2), 1);
        due("p5 a free hook ahead of it", () -> ahead.sweep(), 0);
        CoatHooks last = take(with(8, 0, 7), 7);
        due("p5 the hook 0 is behind the last one", () -> last.sweep(), 1);
        Due.answer("p5 it is free", last.stateOf(7), 0);
        CoatHooks round = take(with(8, 0, 6, 7, 0, 1, 3), 6, 7, 0, 1, 3);
        due("p5 past the hook 0", () -> round.sweep(), 5);
        Due.answer("p5 none is left", round.tickets(), 0);
    }

    private static void p5SweepFullRacks() {
        CoatHooks three = take(with(3, 0, 0, 1, 2), 0, 1);
        due("p5 no hook is free, one has a coat", () -> three.sweep(), 0);
        take(three, 2);
        due("p5 all hooks have tickets", () -> three.sweep(), 3);
        Due.list("p5 all are free", statesOf(three), 0, 0, 0);
        CoatHooks after = take(with(3, 0, 0, 1, 2), 0, 1, 2);
        after.looksWith(8, 0);
        due("p5 all hooks of now, whatever was asked", () -> after.sweep(), 3);
        int[] all = upTo(40);
        CoatHooks forty = take(with(40, 0, all), all);
        due("p5 forty tickets", () -> forty.sweep(), 40);
        for (int open = 0; open < 40; open++) {
            int[] others = new int[39];
            for (int i = 0; i < 39; i++) {
                others[i] = i < open ? i : i + 1;
            }
            CoatHooks x = take(with(40, 0, others), others);
            due("p5 all but the hook " + open, () -> x.sweep(), 39);
        }
        CoatHooks unseen = hidden();
        due("p5 a coat is not found then", () -> unseen.find(16), -1);
        Due.answer("p5 though it hangs", unseen.coatAt(3), 16);
    }

    private static void p6ToP9Counts() {
        CoatHooks x = take(with(13, 2, 4, 5, 6), 5);
        Due.answer("p6 hooks", x.hooks(), 13);
        Due.answer("p7 way", x.way(), 2);
        Due.answer("p8 coats", x.coats(), 2);
        Due.answer("p9 tickets", x.tickets(), 1);
        x.rehang(3, 1);
        Due.answer("p6 least hooks", x.hooks(), 3);
        Due.answer("p7 way", x.way(), 1);
        Due.answer("p8 coats are as many", x.coats(), 2);
        Due.answer("p9 no tickets any more", x.tickets(), 0);
        take(x, 4, 6);
        Due.answer("p8 none", x.coats(), 0);
        Due.answer("p9 two", x.tickets(), 2);
        x.hang(4, 1);
        Due.answer("p8 one", x.coats(), 1);
        Due.answer("p9 one has gone", x.tickets(), 1);
        CoatHooks full = with(40, 0, upTo(40));
        Due.answer("p6 most hooks", full.hooks(), 40);
        Due.answer("p8 most coats", full.coats(), 40);
        Due.answer("p8 none at first", new CoatHooks().coats(), 0);
        Due.answer("p9 none at first", new CoatHooks().tickets(), 0);
    }

    private static void p10ToP12OneHook() {
        CoatHooks x = take(with(8, 0, 8, 7, 15, 0), 15);
        Due.list("p10 states", statesOf(x), 1, 2, 1, 0, 0, 0, 0, 1);
        Due.list("p11 coats", coatsOf(x), 8, -1, 0, -1, -1, -1, -1, 7);
        Due.answer("p12 a coat's weight", x.weightAt(2), 4);
        Due.answer("p12 a ticket's", x.weightAt(1), 0);
        Due.answer("p12 a free hook's", x.weightAt(3), 0);
        for (int bad : new int[] {-1, 8, 40, Integer.MIN_VALUE, Integer.MAX_VALUE}) {
            due("p10 hook " + bad, () -> x.stateOf(bad), INDEX);
            due("p11 hook " + bad, () -> x.coatAt(bad), INDEX);
            due("p12 hook " + bad, () -> x.weightAt(bad), INDEX);
        }
        x.rehang(9, 0);
        due("p10 a new hook", () -> x.stateOf(8), 1);
        due("p11 a new hook", () -> x.coatAt(8), 8);
        due("p12 a new hook", () -> x.weightAt(8), 1);
        CoatHooks full = with(40, 0, upTo(40));
        due("p11 the last of most hooks", () -> full.coatAt(39), 39);
        due("p10 none behind it", () -> full.stateOf(40), INDEX);
        due("p11 none behind it", () -> full.coatAt(40), INDEX);
        due("p12 none behind it", () -> full.weightAt(40), INDEX);
    }

    private static void p13P14Weights() {
        CoatHooks x = new CoatHooks();
        Due.answer("p13 no coats", x.weight(), 0);
        Due.answer("p14 no coats", x.heaviestAt(), -1);
        x.hang(6, 1);
        Due.answer("p14 the lightest alone", x.heaviestAt(), 6);
        x.hang(5, 70);
        x.hang(2, 70);
        x.hang(0, 30);
        Due.answer("p13 all", x.weight(), 171);
        Due.answer("p14 of two the smaller hook", x.heaviestAt(), 2);
        x.take(2);
        Due.answer("p13 without the taken one", x.weight(), 101);
        Due.answer("p14 the taken one does not count", x.heaviestAt(), 5);
        x.hang(1, 99);
        Due.answer("p14 a new one", x.heaviestAt(), 1);
        take(x, 0, 1, 5, 6);
        Due.answer("p13 tickets weigh nothing", x.weight(), 0);
        Due.answer("p14 tickets alone", x.heaviestAt(), -1);
    }

    private static void p15P16Find() {
        CoatHooks x = with(8, 0, 0, 8, 16);
        Due.answer("p15 in the first step", x.find(0), 0);
        Due.answer("p15 in the third step", x.find(16), 2);
        Due.answer("p15 not there", x.find(24), -1);
        Due.answer("p15 not there, on a free hook", x.find(5), -1);
        Due.answer("p16 in the first step", x.looksFor(0), 1);
        Due.answer("p16 in the third step", x.looksFor(16), 3);
        Due.answer("p16 up to a free hook", x.looksFor(24), 4);
        Due.answer("p16 on a free hook", x.looksFor(5), 1);
        Due.answer("p16 the highest number", x.looksFor(9999), 1);
        x.take(8);
        Due.answer("p15 behind a ticket", x.find(16), 2);
        Due.answer("p15 taken", x.find(8), -1);
        Due.answer("p16 past a ticket", x.looksFor(16), 3);
        Due.answer("p16 a taken one", x.looksFor(8), 4);
        for (int bad : NO_NUMBERS) {
            due("p15 number " + bad, () -> x.find(bad), ARGUMENT);
            due("p16 number " + bad, () -> x.looksFor(bad), ARGUMENT);
        }
        CoatHooks full = with(3, 0, 0, 1, 2);
        Due.answer("p15 at no hook of all", full.find(9), -1);
        Due.answer("p16 all hooks", full.looksFor(9), 3);
        Due.answer("p16 on the last hook", with(3, 0, 0, 1, 3).looksFor(3), 3);
        Due.answer("p15 on the last hook", with(3, 0, 0, 1, 3).find(3), 2);
        // By triangles with 3 hooks: 0, 1, 0.
        Due.answer("p16 one hook twice", with(3, 1, 0, 3).looksFor(6), 3);
        Due.answer("p15 not at the free hook 2", with(3, 1, 0, 3).find(6), -1);
        Due.answer("p15 hangs, but is not found", hidden().find(16), -1);
        Due.answer("p16 up to the swept hook", hidden().looksFor(16), 2);
    }

    private static void p17PlaceFor() {
        CoatHooks x = take(with(8, 0, 0, 8, 16, 24), 8, 16);
        Due.answer("p17 the first ticket", x.placeFor(32), 1);
        Due.answer("p17 nothing is changed", x.tickets(), 2);
        Due.answer("p17 a taken one", x.placeFor(16), 1);
        Due.answer("p17 it hangs", x.placeFor(24), -1);
        Due.answer("p17 its own free hook", x.placeFor(13), 5);
        Due.answer("p17 the next free hook", x.placeFor(11), 4);
        for (int bad : NO_NUMBERS) {
            due("p17 number " + bad, () -> x.placeFor(bad), ARGUMENT);
        }
        CoatHooks full = with(3, 0, 0, 1, 2);
        Due.answer("p17 no place", full.placeFor(9999), -1);
        full.take(1);
        Due.answer("p17 a ticket, no free hook", full.placeFor(9999), 1);
        Due.answer("p17 the usher does not look at the free one", with(3, 1, 0, 3).placeFor(6), -1);
        Due.answer("p17 it hangs, though it is not found", hidden().placeFor(16), -1);
        Due.answer("p17 on the swept hook", hidden().placeFor(8), 1);
        Due.answer("p17 the lowest number", new CoatHooks().placeFor(0), 0);
    }

    private static void p18LookedAt() {
        CoatHooks row = with(8, 0, 24);
        Due.answer("p18 in a row", row.lookedAt(24, 3), 3);
        Due.answer("p18 in a row, from the last on", row.lookedAt(7, 1), 0);
        Due.answer("p18 in a row, the last step", row.lookedAt(9999, 39), 6);
        CoatHooks triangles = with(8, 1, 24);
        Due.answer("p18 by triangles", triangles.lookedAt(24, 4), 2);
        Due.answer("p18 by triangles, the first step", triangles.lookedAt(25, 0), 1);
        Due.answer("p18 by triangles, the last step", triangles.lookedAt(0, 39), 4);
        Due.answer("p18 by triangles of 40", with(40, 1).lookedAt(9999, 39), 19);
        CoatHooks strides = with(9, 2);
        Due.answer("p18 by strides of 5", strides.lookedAt(109, 2), 2);
        Due.answer("p18 by strides of 4", strides.lookedAt(28, 1), 5);
        // 64 / 9 is 7, the longest stride; 72 / 9 is 8, by which the shortest comes again.
        Due.answer("p18 by the longest stride", strides.lookedAt(64, 1), 0);
        Due.answer("p18 by the shortest stride", strides.lookedAt(72, 1), 1);
        Due.answer("p18 by strides of 40 hooks", with(40, 2).lookedAt(9999, 39), 23);
        Due.answer("p18 by strides of 3 hooks", with(3, 2).lookedAt(5, 39), 2);
        strides.looksWith(11, 1);
        Due.answer("p18 by the way of now, whatever was asked", strides.lookedAt(28, 1), 5);
        for (int bad : NO_NUMBERS) {
            due("p18 number " + bad, () -> strides.lookedAt(bad, 0), ARGUMENT);
        }
        for (int bad : new int[] {-1, 40, Integer.MIN_VALUE, Integer.MAX_VALUE}) {
            due("p18 step " + bad, () -> strides.lookedAt(0, bad), ARGUMENT);
        }
    }

    private static void p19P20P27Looks() {
        CoatHooks x = new CoatHooks();
        Due.answer("p19 no coats", x.allLooks(), 0);
        Due.answer("p20 no coats", x.farthest(), -1);
        Due.answer("p27 no coats", x.meanLooks(), 0.0);
        x.hang(0, 5);
        Due.answer("p20 the coat 0", x.farthest(), 0);
        x.hang(4, 5);
        x.hang(12, 5);
        x.hang(8, 5);
        Due.answer("p19 four coats", x.allLooks(), 6);
        Due.answer("p20 of two that on the smaller hook", x.farthest(), 8);
        Due.answer("p27 four coats", x.meanLooks(), 1.5);
        x.hang(20, 5);
        Due.answer("p19 five coats", x.allLooks(), 9);
        Due.answer("p20 with three looks", x.farthest(), 20);
        Due.answer("p27 five coats", x.meanLooks(), 9.0 / 5.0);
        x.take(12);
        Due.answer("p19 past a ticket", x.allLooks(), 7);
        Due.answer("p20 past a ticket", x.farthest(), 20);
        Due.answer("p27 past a ticket", x.meanLooks(), 1.75);
        Due.answer("p27 a third", with(8, 0, 0, 8, 1).meanLooks(), 5.0 / 3.0);
        Due.answer("p20 all in the first step", with(8, 0, 6, 3).farthest(), 3);
        Due.answer("p19 one that is not found", hidden().allLooks(), 3);
        Due.answer("p20 one that is not found", hidden().farthest(), 16);
        Due.answer("p27 one that is not found", hidden().meanLooks(), 1.5);
        take(x, 0, 4, 8, 20);
        Due.answer("p19 tickets alone", x.allLooks(), 0);
        Due.answer("p20 tickets alone", x.farthest(), -1);
        Due.answer("p27 tickets alone", x.meanLooks(), 0.0);
    }

    private static void p21ToP23Rows() {
        CoatHooks x = new CoatHooks();
        Due.answer("p21 none", x.rows(), 0);
        Due.answer("p22 none", x.longestRow(), 0);
        Due.answer("p23 none", x.rowAt(0), 0);
        for (int number : new int[] {0, 1, 3, 7}) {
            x.hang(number, 1);
        }
        Due.answer("p21 past the hook 0", x.rows(), 2);
        Due.answer("p22 past the hook 0", x.longestRow(), 3);
        Due.list("p23 past the hook 0", rowsOf(x), 3, 3, 0, 1, 0, 0, 0, 3);
        x.take(0);
        Due.answer("p21 a ticket is not free", x.rows(), 2);
        Due.answer("p22 a ticket is not free", x.longestRow(), 3);
        Due.list("p23 a ticket is not free", rowsOf(x), 3, 3, 0, 1, 0, 0, 0, 3);
        for (int bad : new int[] {-1, 8, 40, Integer.MIN_VALUE, Integer.MAX_VALUE}) {
            due("p23 hook " + bad, () -> x.rowAt(bad), INDEX);
        }
        CoatHooks full = with(3, 0, 0, 1, 2);
        Due.answer("p21 all of them", full.rows(), 1);
        Due.answer("p22 all of them", full.longestRow(), 3);
        Due.list("p23 all of them", rowsOf(full), 3, 3, 3);
        take(full, 0, 1, 2);
        Due.answer("p21 all of them tickets", full.rows(), 1);
        Due.list("p23 all of them tickets", rowsOf(full), 3, 3, 3);
        CoatHooks but = with(5, 0, 0, 1, 3, 4);
        Due.answer("p21 all but one", but.rows(), 1);
        Due.answer("p22 all but one", but.longestRow(), 4);
        Due.list("p23 all but one", rowsOf(but), 4, 4, 0, 4, 4);
        Due.answer("p22 the hook 0 alone", with(8, 0, 0).longestRow(), 1);
        Due.answer("p21 each second one", with(40, 0, 0, 2, 4, 39).rows(), 3);
        Due.answer("p22 forty", with(40, 0, upTo(40)).longestRow(), 40);
        Due.answer("p23 forty", with(40, 0, upTo(40)).rowAt(17), 40);
    }

    private static void p24LooksWith() {
        CoatHooks x = with(8, 0, 0, 8, 16);
        long before = x.digest();
        Due.answer("p24 in a row", x.looksWith(8, 0), 6);
        Due.answer("p24 by triangles", x.looksWith(8, 1), 6);
        Due.answer("p24 by strides", x.looksWith(8, 2), 5);
        Due.answer("p24 least hooks", x.looksWith(3, 0), 3);
        Due.answer("p24 four hooks", x.looksWith(4, 2), 5);
        Due.answer("p24 most hooks", x.looksWith(40, 0), 3);
        Due.answer("p24 nothing is changed", x.digest(), before);
        x.take(8);
        Due.answer("p24 without the ticket", x.looksWith(8, 0), 3);
        Due.answer("p24 the ticket is still there", x.stateOf(1), 2);
        Due.answer("p24 no place by triangles", with(8, 0, 0, 3, 6).looksWith(3, 1), -1);
        Due.answer("p24 more coats than hooks", with(8, 0, 0, 1, 2, 3).looksWith(3, 0), -1);
        Due.answer("p24 no coats", new CoatHooks().looksWith(3, 2), 0);
        for (int bad : NO_COUNTS) {
            due("p24 hooks " + bad, () -> x.looksWith(bad, 0), ARGUMENT);
        }
        for (int bad : NO_WAYS) {
            due("p24 way " + bad, () -> x.looksWith(8, bad), ARGUMENT);
        }
        // By the hooks: 0, 1, 15, 7, and by strides 7 looks at 7, 0, 1 and 2; in the order in which
        // they came, by their numbers, or from the last hook on it would be 6 looks.
        CoatHooks turned = with(8, 0, 0, 1, 7, 15);
        Due.answer("p24 by the hooks on which they hung", turned.looksWith(8, 2), 7);
        Due.answer("p24 one that is not found", hidden().looksWith(8, 1), 3);
    }

    private static void p25BestWay() {
        Due.answer("p25 no coats", new CoatHooks().bestWay(), 0);
        Due.answer("p25 all alike", with(8, 2, 0, 1).bestWay(), 0);
        CoatHooks x = with(8, 0, 0, 8, 16);
        long before = x.digest();
        Due.answer("p25 strides", x.bestWay(), 2);
        Due.answer("p25 nothing is changed", x.digest(), before);
        Due.answer("p25 the way stays", x.way(), 0);
        // By strides the third coat has no place: -1 looks are not the fewest.
        Due.answer("p25 a way without places", with(4, 0, 0, 4, 16).bestWay(), 0);
        Due.answer("p25 triangles", with(8, 0, 0, 1, 7, 15).bestWay(), 1);
        // In a row 8 looks at 0, 1, 2, 3; by triangles at 0, 1, 3; by strides at 0, 2, 4.
        Due.answer("p25 of two the smaller", with(8, 0, 0, 1, 2, 8).bestWay(), 1);
        // By triangles 6 has no place, in a row there are 6 looks, by strides 1 + 2 + 2.
        Due.answer("p25 as many hooks as there are", with(3, 0, 0, 3, 6).bestWay(), 2);
        Due.answer("p25 as many hooks as there are, 9", with(9, 0, 0, 3, 6).bestWay(), 0);
    }

    private static void p26HooksWanted() {
        Due.answer("p26 no coats", new CoatHooks().hooksWanted(0), 3);
        CoatHooks x = with(8, 0, 0, 8, 16, 24);
        long before = x.digest();
        Due.answer("p26 four looks", x.hooksWanted(4), 5);
        Due.answer("p26 nine looks", x.hooksWanted(9), 5);
        Due.answer("p26 ten looks", x.hooksWanted(10), 4);
        Due.answer("p26 most looks", x.hooksWanted(400), 4);
        Due.answer("p26 none", x.hooksWanted(3), -1);
        Due.answer("p26 least looks", x.hooksWanted(0), -1);
        Due.answer("p26 nothing is changed", x.digest(), before);
        for (int bad : new int[] {-1, 401, Integer.MIN_VALUE, Integer.MAX_VALUE}) {
            due("p26 looks " + bad, () -> x.hooksWanted(bad), ARGUMENT);
        }
        CoatHooks strides = with(8, 2, 0, 8, 16, 24);
        Due.answer("p26 by the way of now", strides.hooksWanted(7), 4);
        Due.answer("p26 by the way of now, not enough", strides.hooksWanted(6), 5);
        CoatHooks full = with(40, 0, upTo(40));
        Due.answer("p26 all hooks", full.hooksWanted(40), 40);
        Due.answer("p26 not even all hooks", full.hooksWanted(39), -1);
        // 0 to 38 and 40: with 40 hooks 40 is looked for on all; 41 hooks there are none.
        CoatHooks late = with(40, 0, upTo(39));
        late.hang(40, 1);
        Due.answer("p26 most hooks", late.hooksWanted(79), 40);
        Due.answer("p26 no more hooks", late.hooksWanted(78), -1);
    }

    private static long digestOf(long... numbers) {
        long d = 2237;
        for (long x : numbers) {
            d = d * 31 + x;
        }
        return d;
    }

    private static void p28Digest() {
        CoatHooks x = new CoatHooks();
        x.rehang(3, 0);
        Due.answer("p28 without coats", x.digest(), digestOf(3, 0, 0, 0, 0, -1, 0, -1, 0, 0, 0, 3,
            0, -1, 0, 0, 1, 0, -1, 0, 0, 1, 0, -1, 0, 0, 1));
        CoatHooks full = with(3, 0, 5, 6, 7);
        Due.answer("p28 three coats", full.digest(), digestOf(3, 0, 3, 0, 6, 1, 3, 6, 1, 3, 0, 3,
            1, 6, 2, 3, 3, 1, 7, 3, 3, 1, 1, 5, 1, 3, 3));
        full.take(7);
        Due.answer("p28 a ticket", full.digest(), digestOf(3, 0, 2, 1, 3, 0, 2, 6, 1, 3, 0, 3,
            1, 6, 2, 3, 3, 2, -1, 0, 3, 3, 1, 5, 1, 3, 3));
        CoatHooks best = with(3, 0, 0, 3, 6);
        Due.answer("p28 strides are best", best.digest(), digestOf(3, 0, 3, 0, 6, 2, 6, 6, 1, 3, 2, 3,
            1, 0, 1, 3, 1, 1, 3, 2, 3, 3, 1, 6, 3, 3, 3));
        // 8 and 0 with 4 hooks by strides: 8 first, on 0; 0 by its stride of 1 on 1; and 21, for
        // the hook 3, is looked for on 1, 0 and 3.
        CoatHooks strides = with(4, 2, 8, 0);
        Due.answer("p28 by strides", strides.digest(), digestOf(4, 2, 2, 0, 3, 1, 3, 0, 1, 2, 0, 3,
            1, 8, 1, 2, 2, 1, 0, 2, 2, 1, 0, -1, 0, 0, 1, 0, -1, 0, 0, 3));
    }

    public static void main(String[] args) {
        p1NewObject();
        p2Hang();
        p2HangOnTickets();
        p2HangWithoutPlace();
        p2HangsUnseenOnHook0();
        p3Take();
        p4Rehang();
        p4RehangRefused();
        p5Sweep();
        p5SweepFullRacks();
        p6ToP9Counts();
        p10ToP12OneHook();
        p13P14Weights();
        p15P16Find();
        p17PlaceFor();
        p18LookedAt();
        p19P20P27Looks();
        p21ToP23Rows();
        p24LooksWith();
        p25BestWay();
        p26HooksWanted();
        p28Digest();
        Due.end("PromisesTest");
    }
}
