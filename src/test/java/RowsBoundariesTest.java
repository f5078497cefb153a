/** The boundary cases of the promises 21 to 23, the calls under 'rows', each with a test of its own. */
public final class RowsBoundariesTest extends Theatres {
    // ---- 21, rows

    static void p21NoRow() {
        Sentence s = new Sentence(21, "Returns how many rows there are: of hooks that are not free");
        s.due("8 free hooks", () -> new CoatHooks().rows(), 0);
        s.due("40 free hooks", () -> with(40, 0).rows(), 0);
    }

    static void p21TicketsAreNotFree() {
        Sentence s = new Sentence(21, "of hooks that are not free");
        CoatHooks x = take(with(8, 0, 1, 2, 3, 5), 2, 5);
        s.due("a ticket in a row, and one alone", () -> x.rows(), 2);
        x.sweep();
        s.due("the one alone is swept", () -> x.rows(), 1);
    }

    static void p21OneBesideTheOther() {
        Sentence s = new Sentence(21, "one beside the other, as long as can be");
        s.due("7 hooks", () -> with(8, 0, 0, 1, 2, 3, 4, 5, 6).rows(), 1);
        s.due("one hook", () -> with(8, 0, 4).rows(), 1);
        s.due("each second of 40 hooks", () -> with(40, 0, multiples(2, 20)).rows(), 20);
        s.due("each second of 3 hooks", () -> with(3, 0, 1).rows(), 1);
    }

    static void p21TheHook0IsBesideTheLast() {
        Sentence s = new Sentence(21, "the hook 0 is beside the last one");
        s.due("0 and the last one alone", () -> with(8, 0, 0, 7).rows(), 1);
        s.due("and another row", () -> with(8, 0, 0, 7, 3).rows(), 2);
        s.due("of 3 hooks", () -> with(3, 0, 0, 2).rows(), 1);
        s.due("of 40 hooks", () -> with(40, 0, 0, 39, 20).rows(), 2);
        s.due("the last one alone", () -> with(8, 0, 7).rows(), 1);
        s.due("the hook 0 alone", () -> with(8, 0, 0).rows(), 1);
    }

    static void p21AllOfThem() {
        Sentence s = new Sentence(21, "all of them are one row");
        s.due("3 coats", () -> full(3).rows(), 1);
        s.due("40 coats", () -> full(40).rows(), 1);
        s.due("3 tickets", () -> allTickets(3).rows(), 1);
        s.due("40 tickets", () -> allTickets(40).rows(), 1);
        s.due("both", () -> take(full(8), 0, 7).rows(), 1);
    }

    // ---- 22, longestRow

    static void p22NoRow() {
        Sentence s = new Sentence(22, "Returns how many hooks the longest row has.");
        s.due("8 free hooks", () -> new CoatHooks().longestRow(), 0);
        s.due("40 free hooks", () -> with(40, 0).longestRow(), 0);
    }

    static void p22OneHook() {
        Sentence s = new Sentence(22, "Returns how many hooks the longest row has.");
        s.due("the first", () -> with(8, 0, 0).longestRow(), 1);
        s.due("the last", () -> with(8, 0, 7).longestRow(), 1);
        s.due("each second of 40", () -> with(40, 0, multiples(2, 20)).longestRow(), 1);
    }

    static void p22PastTheHook0() {
        Sentence s = new Sentence(22, "Returns how many hooks the longest row has.");
        s.due("6, 7, 0 and 1, longer than 3 and 4", () -> with(8, 0, 6, 7, 0, 1, 3, 4).longestRow(), 4);
        s.due("7 and 0, not so long as 2, 3 and 4", () -> with(8, 0, 7, 0, 2, 3, 4).longestRow(), 3);
    }

    static void p22AllHooks() {
        Sentence s = new Sentence(22, "Returns how many hooks the longest row has.");
        s.due("3 coats", () -> full(3).longestRow(), 3);
        s.due("40 coats", () -> full(40).longestRow(), 40);
        s.due("40 tickets", () -> allTickets(40).longestRow(), 40);
        s.due("39 coats", () -> with(40, 0, upTo(39)).longestRow(), 39);
    }

    // ---- 23, rowAt

    static void p23HookTooSmall() {
        WrongArguments.hookTooSmall(23, CoatHooks::rowAt);
    }

    static void p23HookTooLarge() {
        WrongArguments.hookTooLarge(23, CoatHooks::rowAt);
    }

    static void p23WithLeastAndMostHooks() {
        WrongArguments.hookOfLeastAndMost(23, CoatHooks::rowAt);
    }

    static void p23AFreeHook() {
        Sentence s = new Sentence(23, "0 if it is free");
        s.due("all are", () -> new CoatHooks().rowAt(0), 0);
        s.due("between two rows", () -> with(8, 0, 3, 5).rowAt(4), 0);
        s.due("the only one", () -> with(3, 0, 0, 1).rowAt(2), 0);
        s.due("the hook 0, the only one", () -> with(3, 0, 1, 2).rowAt(0), 0);
    }

    static void p23PastTheHook0() {
        Sentence s = new Sentence(23, "Returns how many hooks the row has in which it is");
        CoatHooks x = take(with(8, 0, 6, 7, 0, 2), 7);
        s.list("6, 7 and 0, with a ticket on 7", rowsOf(x), 3, 0, 1, 0, 0, 0, 3, 3);
        s.list("of 3 hooks", rowsOf(with(3, 0, 0, 2)), 2, 0, 2);
    }

    static void p23AllHooks() {
        Sentence s = new Sentence(23, "Returns how many hooks the row has in which it is");
        s.list("3 coats", rowsOf(full(3)), 3, 3, 3);
        s.list("3 tickets", rowsOf(allTickets(3)), 3, 3, 3);
        s.due("40 coats, in the midst", () -> full(40).rowAt(17), 40);
        s.due("39 coats, in the midst", () -> with(40, 0, upTo(39)).rowAt(17), 39);
    }

    public static void main(String[] args) throws IllegalAccessException {
        Sentence.runAll(RowsBoundariesTest.class);
    }
}
