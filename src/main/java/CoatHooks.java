/** Coat hooks in a theatre, as a table in which numbers are looked for by probing. */
public final class CoatHooks {
    private static final int LEAST_HOOKS = 3;
    private static final int MOST_HOOKS = 40;
    private static final int FIRST_HOOKS = 8;
    private static final int IN_A_ROW = 0;
    private static final int BY_TRIANGLES = 1;
    private static final int BY_STRIDES = 2;
    private static final int WITH_NOTHING = 0;
    private static final int WITH_COAT = 1;
    private static final int WITH_TICKET = 2;
    private static final int HIGHEST_NUMBER = 9999;
    private static final int LEAST_WEIGHT = 1;
    private static final int MOST_WEIGHT = 99;
    private static final int MOST_LOOKS = 400;
    private static final int NONE = -1;
    private static final int DIGEST_START = 2237;
    private static final int DIGEST_FACTOR = 31;
    private static final int DIGEST_LOOKS = 20;
    private static final int DIGEST_NUMBER_STEP = 7;

    private final Rack rack;

    // Kept for good, so that asking what would be makes no new rows at each call.
    private final Rack trial;

    public CoatHooks() {
        rack = new Rack();
        trial = new Rack();
    }

    // ---- coats

    public int hang(int number, int weight) throws IllegalArgumentException, IllegalStateException {
        demandNumber(number);
        if (weight < LEAST_WEIGHT || weight > MOST_WEIGHT) {
            throw new IllegalArgumentException("the weight is not 1 to 99");
        }
        int hook = rack.placeOf(number);
        if (hook == NONE) {
            throw new IllegalStateException("the coat hangs, or has no place");
        }
        rack.put(hook, number, weight);
        return hook;
    }

    public int take(int number) throws IllegalArgumentException, IllegalStateException {
        demandNumber(number);
        int hook = rack.whereFound(number);
        if (hook == NONE) {
            throw new IllegalStateException("the coat does not hang, or is not found");
        }
        int taken = rack.weightOn(hook);
        rack.leaveTicket(hook);
        return taken;
    }

    public int rehang(int hooks, int way) throws IllegalArgumentException, IllegalStateException {
        demandHooksAndWay(hooks, way);
        if (!hangAnewOnTrial(hooks, way)) {
            throw new IllegalStateException("a coat has no place");
        }
        int moved = coatsMovedOnTrial();
        takeOverTrial();
        return moved;
    }

    public int sweep() {
        boolean allTickets = rack.countInState(WITH_TICKET) == rack.hookCount();
        return allTickets ? rack.freeAll() : rack.freeSweptTickets();
    }

    // ---- hooks

    public int hooks() {
        return rack.hookCount();
    }

    public int way() {
        return rack.usherWay();
    }

    public int coats() {
        return rack.countInState(WITH_COAT);
    }

    public int tickets() {
        return rack.countInState(WITH_TICKET);
    }

    public int stateOf(int hook) throws IndexOutOfBoundsException {
        demandHook(hook);
        return rack.stateOn(hook);
    }

    public int coatAt(int hook) throws IndexOutOfBoundsException {
        demandHook(hook);
        return rack.coatOn(hook);
    }

    public int weightAt(int hook) throws IndexOutOfBoundsException {
        demandHook(hook);
        return rack.weightOn(hook);
    }

    public int weight() {
        return rack.weightOfAll();
    }

    public int heaviestAt() {
        return rack.hookOfHeaviest();
    }

    // ---- looking

    public int find(int number) throws IllegalArgumentException {
        demandNumber(number);
        return rack.whereFound(number);
    }

    public int looksFor(int number) throws IllegalArgumentException {
        demandNumber(number);
        return rack.countLooks(number);
    }

    public int placeFor(int number) throws IllegalArgumentException {
        demandNumber(number);
        return rack.placeOf(number);
    }

    public int lookedAt(int number, int step) throws IllegalArgumentException {
        demandNumber(number);
        if (step < 0 || step >= MOST_HOOKS) {
            throw new IllegalArgumentException("the step is not 0 to 39");
        }
        return rack.hookInStep(number, step);
    }

    public int allLooks() {
        return rack.looksForAll();
    }

    public int farthest() {
        return rack.coatWithMostLooks();
    }

    // ---- rows

    public int rows() {
        return rack.rowCount();
    }

    public int longestRow() {
        return rack.longestRowLength();
    }

    public int rowAt(int hook) throws IndexOutOfBoundsException {
        demandHook(hook);
        return rack.rowLength(hook);
    }

    // ---- what would be

    public int looksWith(int hooks, int way) throws IllegalArgumentException {
        demandHooksAndWay(hooks, way);
        return looksOnTrial(hooks, way);
    }

    public int bestWay() {
        int best = NONE;
        int fewest = 0;
        for (int way = IN_A_ROW; way <= BY_STRIDES; way++) {
            int looks = looksOnTrial(rack.hookCount(), way);
            if (looks >= 0 && (best == NONE || looks < fewest)) {
                best = way;
                fewest = looks;
            }
        }
        return best;
    }

    public int hooksWanted(int looks) throws IllegalArgumentException {
        if (looks < 0 || looks > MOST_LOOKS) {
            throw new IllegalArgumentException("the looks are not 0 to 400");
        }
        return fewestHooks(looks);
    }

    public double meanLooks() {
        int hanging = rack.countInState(WITH_COAT);
        if (hanging == 0) {
            return 0.0;
        }
        return (double) rack.looksForAll() / (double) hanging;
    }

    public long digest() {
        long d = DIGEST_START;
        d = d * DIGEST_FACTOR + rack.hookCount();
        d = d * DIGEST_FACTOR + rack.usherWay();
        d = d * DIGEST_FACTOR + rack.countInState(WITH_COAT);
        d = d * DIGEST_FACTOR + rack.countInState(WITH_TICKET);
        d = d * DIGEST_FACTOR + rack.weightOfAll();
        d = d * DIGEST_FACTOR + rack.hookOfHeaviest();
        d = d * DIGEST_FACTOR + rack.looksForAll();
        d = d * DIGEST_FACTOR + rack.coatWithMostLooks();
        d = d * DIGEST_FACTOR + rack.rowCount();
        d = d * DIGEST_FACTOR + rack.longestRowLength();
        d = d * DIGEST_FACTOR + bestWay();
        d = d * DIGEST_FACTOR + fewestHooks(DIGEST_LOOKS);
        for (int hook = 0; hook < rack.hookCount(); hook++) {
            d = d * DIGEST_FACTOR + rack.stateOn(hook);
            d = d * DIGEST_FACTOR + rack.coatOn(hook);
            d = d * DIGEST_FACTOR + rack.weightOn(hook);
            d = d * DIGEST_FACTOR + rack.rowLength(hook);
            d = d * DIGEST_FACTOR + rack.countLooks(hook * DIGEST_NUMBER_STEP);
        }
        return d;
    }

    private static void demandNumber(int number) {
        if (number < 0 || number > HIGHEST_NUMBER) {
            throw new IllegalArgumentException("the number is not 0 to 9999");
        }
    }

    private static void demandHooksAndWay(int hooks, int way) {
        if (hooks < LEAST_HOOKS || hooks > MOST_HOOKS) {
            throw new IllegalArgumentException("the hooks are not 3 to 40");
        }
        if (way < IN_A_ROW || way > BY_STRIDES) {
            throw new IllegalArgumentException("the way is not 0 to 2");
        }
    }

    private void demandHook(int hook) {
        if (hook < 0 || hook >= rack.hookCount()) {
            throw new IndexOutOfBoundsException("there is no such hook");
        }
    }

    private int fewestHooks(int looks) {
        for (int hooks = LEAST_HOOKS; hooks <= MOST_HOOKS; hooks++) {
            int needed = looksOnTrial(hooks, rack.usherWay());
            if (needed >= 0 && needed <= looks) {
                return hooks;
            }
        }
        return NONE;
    }

    private int looksOnTrial(int hooks, int way) {
        return hangAnewOnTrial(hooks, way) ? trial.looksForAll() : NONE;
    }

    private boolean hangAnewOnTrial(int hooks, int way) {
        trial.clear(hooks, way);
        for (int hook = 0; hook < rack.hookCount(); hook++) {
            int number = rack.coatOn(hook);
            if (number != NONE) {
                int place = trial.openHook(number);
                if (place == NONE) {
                    return false;
                }
                trial.put(place, number, rack.weightOn(hook));
            }
        }
        return true;
    }

    private int coatsMovedOnTrial() {
        int moved = 0;
        for (int hook = 0; hook < trial.hookCount(); hook++) {
            int number = trial.coatOn(hook);
            if (number != NONE && rack.coatOn(hook) != number) {
                moved++;
            }
        }
        return moved;
    }

    private void takeOverTrial() {
        rack.clear(trial.hookCount(), trial.usherWay());
        for (int hook = 0; hook < trial.hookCount(); hook++) {
            int number = trial.coatOn(hook);
            if (number != NONE) {
                rack.put(hook, number, trial.weightOn(hook));
            }
        }
    }

    /** Hooks with what is on them, and the way by which an usher looks at them. */
    private static final class Rack {
        private static final int FREE = -1;
        private static final int TICKET = -2;

        // The number of the hook's coat, or FREE, or TICKET.
        private final int[] held = new int[MOST_HOOKS];
        private final int[] weights = new int[MOST_HOOKS];
        private int size;
        private int manner;

        Rack() {
            clear(FIRST_HOOKS, IN_A_ROW);
        }

        void clear(int newSize, int newManner) {
            size = newSize;
            manner = newManner;
            for (int hook = 0; hook < held.length; hook++) {
                put(hook, FREE, 0);
            }
        }

        void leaveTicket(int hook) {
            put(hook, TICKET, 0);
        }

        void put(int hook, int what, int weightThere) {
            if (hook >= 0 && hook < held.length && hook < weights.length) {
                held[hook] = what;
                weights[hook] = weightThere;
            }
        }

        private int heldOn(int hook) {
            return hook >= 0 && hook < size && hook < held.length ? held[hook] : FREE;
        }

        int hookCount() {
            return size;
        }

        int usherWay() {
            return manner;
        }

        int stateOn(int hook) {
            int what = heldOn(hook);
            if (what == FREE) {
                return WITH_NOTHING;
            }
            return what == TICKET ? WITH_TICKET : WITH_COAT;
        }

        int coatOn(int hook) {
            int what = heldOn(hook);
            return what >= 0 ? what : NONE;
        }

        int weightOn(int hook) {
            return hook >= 0 && hook < size && hook < weights.length ? weights[hook] : 0;
        }

        int countInState(int state) {
            int count = 0;
            for (int hook = 0; hook < size; hook++) {
                if (stateOn(hook) == state) {
                    count++;
                }
            }
            return count;
        }

        int weightOfAll() {
            int sum = 0;
            for (int hook = 0; hook < size; hook++) {
                sum += weightOn(hook);
            }
            return sum;
        }

        int hookOfHeaviest() {
            int best = NONE;
            int most = 0;
            for (int hook = 0; hook < size; hook++) {
                if (weightOn(hook) > most) {
                    best = hook;
                    most = weightOn(hook);
                }
            }
            return best;
        }

        int hookInStep(int number, int step) {
            if (size < LEAST_HOOKS) {
                return 0;
            }
            int off = step;
            if (manner == BY_TRIANGLES) {
                off = step * (step + 1) / 2;
            } else if (manner == BY_STRIDES) {
                off = step * (1 + number / size % (size - 1));
            }
            return (number + off) % size;
        }

        int countLooks(int number) {
            for (int step = 0; step < size; step++) {
                int what = heldOn(hookInStep(number, step));
                if (what == number || what == FREE) {
                    return step + 1;
                }
            }
            return size;
        }

        int whereFound(int number) {
            int last = hookInStep(number, countLooks(number) - 1);
            return heldOn(last) == number ? last : NONE;
        }

        // Having swept, a coat may hang without being found: each hook has to be seen.
        private boolean hangs(int number) {
            for (int hook = 0; hook < size; hook++) {
                if (heldOn(hook) == number) {
                    return true;
                }
            }
            return false;
        }

        int placeOf(int number) {
            return hangs(number) ? NONE : openHook(number);
        }

        int openHook(int number) {
            int looks = countLooks(number);
            for (int step = 0; step < looks; step++) {
                int hook = hookInStep(number, step);
                if (heldOn(hook) == TICKET) {
                    return hook;
                }
            }
            int last = hookInStep(number, looks - 1);
            return heldOn(last) == FREE ? last : NONE;
        }

        int looksForAll() {
            int sum = 0;
            for (int hook = 0; hook < size; hook++) {
                int number = heldOn(hook);
                if (number >= 0) {
                    sum += countLooks(number);
                }
            }
            return sum;
        }

        int coatWithMostLooks() {
            int best = NONE;
            int most = 0;
            for (int hook = 0; hook < size; hook++) {
                int number = heldOn(hook);
                int looks = number >= 0 ? countLooks(number) : 0;
                if (looks > most) {
                    best = number;
                    most = looks;
                }
            }
            return best;
        }

        private int behind(int hook) {
            return hook + 1 < size ? hook + 1 : 0;
        }

        private int before(int hook) {
            return hook > 0 ? hook - 1 : size - 1;
        }

        int freeAll() {
            int freed = size;
            clear(size, manner);
            return freed;
        }

        int freeSweptTickets() {
            int freed = 0;
            int hook = size - 1;
            // Twice round, backwards: the first round comes to each free hook, the
            // second follows the tickets ahead of it to their end, past the hook 0 too.
            for (int looked = 0; looked < 2 * size; looked++) {
                if (heldOn(hook) == TICKET && heldOn(behind(hook)) == FREE) {
                    put(hook, FREE, 0);
                    freed++;
                }
                hook = before(hook);
            }
            return freed;
        }

        int rowLength(int hook) {
            if (heldOn(hook) == FREE) {
                return 0;
            }
            int length = 1;
            int next = behind(hook);
            while (length < size && heldOn(next) != FREE) {
                length++;
                next = behind(next);
            }
            int previous = before(hook);
            while (length < size && heldOn(previous) != FREE) {
                length++;
                previous = before(previous);
            }
            return length;
        }

        int rowCount() {
            int ends = 0;
            int taken = 0;
            for (int hook = 0; hook < size; hook++) {
                if (heldOn(hook) != FREE) {
                    taken++;
                    ends += heldOn(behind(hook)) == FREE ? 1 : 0;
                }
            }
            // Where no hook is free, the one row has no end.
            return taken == size ? 1 : ends;
        }

        int longestRowLength() {
            int longest = 0;
            for (int hook = 0; hook < size; hook++) {
                int length = rowLength(hook);
                longest = length > longest ? length : longest;
            }
            return longest;
        }
    }
}
