import java.util.ArrayList;
import java.util.HashMap;
import java.util.List;
import java.util.Map;

/**
 * Long runs of calls, good and wrong ones mixed, beside a model that is written in another
 * manner: every answer, and every exception by its exact class, is compared.
 */
public final class ModelTest extends Theatres {
    private static final int RUNS = 600;
    private static final int CALLS = 512;

    /** What hangs where: hook to number, hook to weight, hooks with tickets. */
    private static final class Model {
        int h = 8;
        int way = 0;
        Map<Integer, Integer> coat = new HashMap<>();
        Map<Integer, Integer> weight = new HashMap<>();
        List<Integer> tickets = new ArrayList<>();

        boolean free(int hook) {
            return !coat.containsKey(hook) && !tickets.contains(hook);
        }

        /** The first steps of the usher's walk, by adding to the last hook what is between two steps. */
        List<Integer> walk(int n, int steps) {
            List<Integer> path = new ArrayList<>();
            int at = n % h;
            int stride = 1 + (n / h) % (h - 1);
            for (int k = 0; k < steps; k++) {
                path.add(at);
                at = (at + (way == 0 ? 1 : way == 1 ? k + 1 : stride)) % h;
            }
            return path;
        }

        List<Integer> looks(int n) {
            List<Integer> path = walk(n, h);
            for (int i = 0; i < path.size(); i++) {
                int hook = path.get(i);
                if (free(hook) || Integer.valueOf(n).equals(coat.get(hook))) {
                    return path.subList(0, i + 1);
                }
            }
            return path;
        }

        int find(int n) {
            for (int hook : looks(n)) {
                if (Integer.valueOf(n).equals(coat.get(hook))) {
                    return hook;
                }
            }
            return -1;
        }

        int place(int n) {
            if (coat.containsValue(n)) {
                return -1;
            }
            int open = -1;
            for (int hook : looks(n)) {
                if (tickets.contains(hook)) {
                    return hook;
                }
                open = free(hook) ? hook : open;
            }
            return open;
        }

        Model anew(int hooks, int newWay) {
            Model m = new Model();
            m.h = hooks;
            m.way = newWay;
            for (int hook = 0; hook < h; hook++) {
                if (coat.containsKey(hook)) {
                    int p = m.place(coat.get(hook));
                    if (p < 0) {
                        return null;
                    }
                    m.coat.put(p, coat.get(hook));
                    m.weight.put(p, weight.get(hook));
                }
            }
            return m;
        }

        int allLooks() {
            int sum = 0;
            for (int n : coat.values()) {
                sum += looks(n).size();
            }
            return sum;
        }

        int looksWith(int hooks, int newWay) {
            Model m = anew(hooks, newWay);
            return m == null ? -1 : m.allLooks();
        }

        int farthest() {
            int best = -1;
            for (int hook = h - 1; hook >= 0; hook--) {
                if (coat.containsKey(hook)) {
                    int n = coat.get(hook);
                    best = best < 0 || looks(n).size() >= looks(best).size() ? n : best;
                }
            }
            return best;
        }

        int heaviestAt() {
            int best = -1;
            for (int hook = h - 1; hook >= 0; hook--) {
                if (coat.containsKey(hook) && (best < 0 || weight.get(hook) >= weight.get(best))) {
                    best = hook;
                }
            }
            return best;
        }

        /** The lengths of the rows, by the number of the hook in it. */
        int rowAt(int hook) {
            if (free(hook)) {
                return 0;
            }
            int from = 0;
            while (from < h - 1 && !free((hook - from - 1 + h) % h)) {
                from++;
            }
            int length = 0;
            while (length < h && !free((hook - from + length + h) % h)) {
                length++;
            }
            return length;
        }

        int rows() {
            int hooksInRows = 0;
            double rows = 0;
            for (int hook = 0; hook < h; hook++) {
                hooksInRows += rowAt(hook) > 0 ? 1 : 0;
                rows += rowAt(hook) > 0 ? 1.0 / rowAt(hook) : 0;
            }
            return hooksInRows == 0 ? 0 : (int) Math.round(rows);
        }

        int longestRow() {
            int longest = 0;
            for (int hook = 0; hook < h; hook++) {
                longest = Math.max(longest, rowAt(hook));
            }
            return longest;
        }

        int bestWay() {
            int best = -1;
            for (int w = 2; w >= 0; w--) {
                int looks = looksWith(h, w);
                if (looks >= 0 && (best < 0 || looks <= looksWith(h, best))) {
                    best = w;
                }
            }
            return best;
        }

        int hooksWanted(int looks) {
            int best = -1;
            for (int hooks = 40; hooks >= 3; hooks--) {
                int l = looksWith(hooks, way);
                best = l >= 0 && l <= looks ? hooks : best;
            }
            return best;
        }

        int sweep() {
            int before = tickets.size();
            if (before == h) {
                tickets.clear();
            }
            boolean more = true;
            while (more) {
                more = tickets.removeIf(t -> free((t + 1) % h));
            }
            return before - tickets.size();
        }

        double meanLooks() {
            return coat.isEmpty() ? 0.0 : (double) allLooks() / coat.size();
        }

        int totalWeight() {
            return weight.values().stream().mapToInt(Integer::intValue).sum();
        }

        long digest() {
            List<Integer> xs = new ArrayList<>(List.of(h, way, coat.size(), tickets.size(), totalWeight()));
            xs.addAll(List.of(heaviestAt(), allLooks(), farthest(), rows(), longestRow()));
            xs.addAll(List.of(bestWay(), hooksWanted(20)));
            for (int hook = 0; hook < h; hook++) {
                xs.add(coat.containsKey(hook) ? 1 : tickets.contains(hook) ? 2 : 0);
                xs.add(coat.getOrDefault(hook, -1));
                xs.add(weight.getOrDefault(hook, 0));
                xs.add(rowAt(hook));
                xs.add(looks(hook * 7).size());
            }
            long d = 2237;
            for (int x : xs) {
                d = d * 31 + x;
            }
            return d;
        }

        Object hang(int n, int w) {
            if (n < 0 || n > 9999 || w < 1 || w > 99) {
                return ARGUMENT;
            }
            int p = place(n);
            if (p < 0) {
                return STATE;
            }
            tickets.remove(Integer.valueOf(p));
            coat.put(p, n);
            weight.put(p, w);
            return p;
        }

        Object take(int n) {
            if (n < 0 || n > 9999) {
                return ARGUMENT;
            }
            int hook = find(n);
            if (hook < 0) {
                return STATE;
            }
            coat.remove(hook);
            tickets.add(hook);
            return weight.remove(hook);
        }

        Object rehang(int hooks, int newWay) {
            if (hooks < 3 || hooks > 40 || newWay < 0 || newWay > 2) {
                return ARGUMENT;
            }
            Model m = anew(hooks, newWay);
            if (m == null) {
                return STATE;
            }
            int moved = 0;
            for (Map.Entry<Integer, Integer> e : coat.entrySet()) {
                moved += e.getValue().equals(m.coat.get(e.getKey())) ? 0 : 1;
            }
            h = m.h;
            way = m.way;
            coat = m.coat;
            weight = m.weight;
            tickets = m.tickets;
            return moved;
        }
    }

    private final CoatHooks x = new CoatHooks();
    private final Model m = new Model();
    private final int run;
    private final int numbers;
    private long seed;

    private ModelTest(int run) {
        this.run = run;
        this.seed = 77L + run * 1000003L;
        this.numbers = run % 4 == 0 ? 10000 : run % 4 == 1 ? 12 : run % 4 == 2 ? 60 : 400;
    }

    private int next(int below) {
        seed = seed * 6364136223846793005L + 1442695040888963407L;
        return (int) ((seed >>> 33) % below);
    }

    private int wild() {
        int[] edges = {-1, 0, 1, 2, 3, 7, 8, 9, 39, 40, 41, 99, 100, 400, 401, 9998, 9999, 10000,
            Integer.MIN_VALUE, Integer.MAX_VALUE, -2, -8, 65536};
        return edges[next(edges.length)];
    }

    private int number() {
        if (next(25) == 0) {
            return wild();
        }
        if (next(3) == 0 && !m.coat.isEmpty()) {
            List<Integer> there = new ArrayList<>(m.coat.values());
            return there.get(next(there.size()));
        }
        return next(numbers);
    }

    private int hook() {
        return next(12) == 0 ? wild() : next(3) == 0 ? m.h - 1 + next(2) : next(m.h);
    }

    private void due(String what, Due.Call call, Object answer) {
        Due.answer("run " + run + ": " + what, Due.outcome(call), answer);
    }

    private void change(int k) {
        if (k < 45) {
            int n = number();
            int w = next(20) == 0 ? wild() : 1 + next(99);
            due("hang(" + n + ", " + w + ")", () -> x.hang(n, w), m.hang(n, w));
        } else if (k < 80) {
            int n = number();
            due("take(" + n + ")", () -> x.take(n), m.take(n));
        } else if (k < 90) {
            int hooks = next(8) == 0 ? wild() : next(2) == 0 ? 3 + next(38) : 3 + next(8);
            int way = next(10) == 0 ? wild() : next(3);
            due("rehang(" + hooks + ", " + way + ")", () -> x.rehang(hooks, way), m.rehang(hooks, way));
        } else {
            due("sweep()", () -> x.sweep(), m.sweep());
        }
    }

    private boolean noHook(int hook) {
        return hook < 0 || hook >= m.h;
    }

    private void askHook(int k) {
        int i = hook();
        Object ticketOrFree = m.tickets.contains(i) ? 2 : 0;
        if (k == 0) {
            Object state = m.coat.containsKey(i) ? 1 : ticketOrFree;
            due("stateOf(" + i + ")", () -> x.stateOf(i), noHook(i) ? INDEX : state);
        } else if (k == 1) {
            due("coatAt(" + i + ")", () -> x.coatAt(i), noHook(i) ? INDEX : (Object) m.coat.getOrDefault(i, -1));
        } else if (k == 2) {
            due("weightAt(" + i + ")", () -> x.weightAt(i),
                noHook(i) ? INDEX : (Object) m.weight.getOrDefault(i, 0));
        } else {
            due("rowAt(" + i + ")", () -> x.rowAt(i), noHook(i) ? INDEX : (Object) m.rowAt(i));
        }
    }

    private void askNumber(int k) {
        int n = number();
        boolean bad = n < 0 || n > 9999;
        if (k == 0) {
            due("find(" + n + ")", () -> x.find(n), bad ? ARGUMENT : (Object) m.find(n));
        } else if (k == 1) {
            due("looksFor(" + n + ")", () -> x.looksFor(n), bad ? ARGUMENT : (Object) m.looks(n).size());
        } else if (k == 2) {
            due("placeFor(" + n + ")", () -> x.placeFor(n), bad ? ARGUMENT : (Object) m.place(n));
        } else {
            int s = next(10) == 0 ? wild() : next(40);
            boolean wrong = bad || s < 0 || s > 39;
            due("lookedAt(" + n + ", " + s + ")", () -> x.lookedAt(n, s),
                wrong ? ARGUMENT : (Object) m.walk(n, s + 1).get(s));
        }
    }

    private void askWhatWouldBe(int k) {
        if (k == 0) {
            int hooks = next(8) == 0 ? wild() : 3 + next(38);
            int way = next(10) == 0 ? wild() : next(3);
            boolean bad = hooks < 3 || hooks > 40 || way < 0 || way > 2;
            due("looksWith(" + hooks + ", " + way + ")", () -> x.looksWith(hooks, way),
                bad ? ARGUMENT : (Object) m.looksWith(hooks, way));
        } else if (k == 1) {
            int looks = next(6) == 0 ? wild() : next(m.coat.size() * 3 + 1);
            due("hooksWanted(" + looks + ")", () -> x.hooksWanted(looks),
                looks < 0 || looks > 400 ? ARGUMENT : (Object) m.hooksWanted(looks));
        } else if (k == 2) {
            due("bestWay()", () -> x.bestWay(), m.bestWay());
        } else {
            due("meanLooks()", () -> x.meanLooks(), m.meanLooks());
        }
    }

    private void askAll(int k) {
        switch (k) {
            case 0: due("hooks()", () -> x.hooks(), m.h); break;
            case 1: due("way()", () -> x.way(), m.way); break;
            case 2: due("coats()", () -> x.coats(), m.coat.size()); break;
            case 3: due("tickets()", () -> x.tickets(), m.tickets.size()); break;
            case 4: due("weight()", () -> x.weight(), m.totalWeight()); break;
            case 5: due("heaviestAt()", () -> x.heaviestAt(), m.heaviestAt()); break;
            case 6: due("allLooks()", () -> x.allLooks(), m.allLooks()); break;
            case 7: due("farthest()", () -> x.farthest(), m.farthest()); break;
            case 8: due("rows()", () -> x.rows(), m.rows()); break;
            case 9: due("longestRow()", () -> x.longestRow(), m.longestRow()); break;
            default: due("digest()", () -> x.digest(), m.digest()); break;
        }
    }

    private void go() {
        for (int call = 0; call < CALLS; call++) {
            int k = next(100);
            // Some runs fill up first, so that full racks and long walks are seen too.
            boolean filling = run % 3 == 0 && call < 80;
            if (filling || k < 50) {
                change(filling ? next(47) : next(100));
            } else if (k < 60) {
                askHook(next(4));
            } else if (k < 78) {
                askNumber(next(4));
            } else if (k < 86) {
                askWhatWouldBe(next(4));
            } else {
                askAll(next(11));
            }
        }
    }

    public static void main(String[] args) {
        for (int run = 0; run < RUNS; run++) {
            new ModelTest(run).go();
        }
        Due.end("ModelTest");
    }
}
