import java.util.ArrayList;
import java.util.Comparator;
import java.util.HashSet;
import java.util.List;
import java.util.Set;
import java.math.BigInteger;

/**
 * The document once more, in another way: every job that ever was is kept, each with all its
 * ticks, and the answers are worked out anew from that history.
 */
final class PlainModel {
    record Part(int r, int from, int to) {
    }

    static final class Maker {
        int period;
        int span;
        int cost;
        final List<Part> parts = new ArrayList<>();
    }

    static final class Work {
        int task;
        int released;
        int amount;
        int deadline;
        boolean missed;
        int ended = -1;
        int blockedTicks;
        int done;
        int spell;
        final Set<String> blockings = new HashSet<>();
    }

    record Place(int deadline, int tie, int code) {
    }

    final List<Maker> makers = new ArrayList<>();
    final List<Work> works = new ArrayList<>();
    final List<Integer> codes = new ArrayList<>();
    final List<Integer> requests = new ArrayList<>();
    boolean started;
    int size;
    int serverPeriod;
    int budget;
    int serverDeadline;
    int usedUp;
    int served;

    int task(int period, int span, int cost) {
        if (started || makers.size() >= 6) {
            return -1;
        }
        if (cost < 1 || span < cost || period < span || period > 100) {
            return -1;
        }
        Maker m = new Maker();
        m.period = period;
        m.span = span;
        m.cost = cost;
        makers.add(m);
        return makers.size() - 1;
    }

    boolean section(int task, int r, int from, int to) {
        if (started || task < 0 || task >= makers.size() || r < 0 || r > 3) {
            return false;
        }
        Maker m = makers.get(task);
        if (from < 0 || to <= from || to > m.cost || m.parts.size() > 3) {
            return false;
        }
        for (Part p : m.parts) {
            int common = 0;
            for (int t = from; t < to; t++) {
                common += p.from <= t && t < p.to ? 1 : 0;
            }
            boolean nested = common == to - from || common == p.to - p.from;
            if (common > 0 && (p.r == r || !nested)) {
                return false;
            }
        }
        m.parts.add(new Part(r, from, to));
        return true;
    }

    boolean server(int newSize, int newPeriod) {
        if (started || newSize < 1 || newPeriod < newSize || newPeriod > 100) {
            return false;
        }
        size = newSize;
        serverPeriod = newPeriod;
        budget = newSize;
        return true;
    }

    boolean start() {
        boolean first = !started;
        started = true;
        return first;
    }

    int verdict() {
        for (int i = 0; i < makers.size(); i++) {
            List<int[]> terms = new ArrayList<>();
            int w = 0;
            for (Maker m : makers) {
                if (m.span <= makers.get(i).span) {
                    terms.add(new int[] {m.cost, m.span});
                } else {
                    for (Part p : m.parts) {
                        w = ceiling(p.r) >= level(i) ? Math.max(w, p.to - p.from - 1) : w;
                    }
                }
            }
            terms.add(new int[] {w, makers.get(i).span});
            if (size > 0) {
                terms.add(new int[] {size, serverPeriod});
            }
            if (isAboveOne(terms)) {
                return i;
            }
        }
        return -1;
    }

    private static boolean isAboveOne(List<int[]> terms) {
        BigInteger all = BigInteger.ONE;
        for (int[] t : terms) {
            all = all.multiply(BigInteger.valueOf(t[1]));
        }
        BigInteger sum = BigInteger.ZERO;
        for (int[] t : terms) {
            sum = sum.add(all.divide(BigInteger.valueOf(t[1])).multiply(BigInteger.valueOf(t[0])));
        }
        return sum.compareTo(all) > 0;
    }

    int level(int task) {
        return 101 - makers.get(task).span;
    }

    int ceiling(int r) {
        if (r < 0 || r > 3) {
            return -1;
        }
        int greatest = 0;
        for (int i = 0; i < makers.size(); i++) {
            for (Part p : makers.get(i).parts) {
                greatest = p.r == r ? Math.max(greatest, level(i)) : greatest;
            }
        }
        return greatest;
    }

    Work latest(int task) {
        Work found = null;
        for (Work w : works) {
            found = w.task == task ? w : found;
        }
        return found;
    }

    int release(int task, int amount) {
        if (!started) {
            return -1;
        }
        if (task < 0 || task >= makers.size() || amount < 1 || amount > makers.get(task).cost) {
            return -2;
        }
        Work last = latest(task);
        if (last != null && last.ended < 0) {
            return -3;
        }
        if (last != null && last.released + makers.get(task).period > time()) {
            return -4;
        }
        Work w = new Work();
        w.task = task;
        w.released = time();
        w.amount = amount;
        w.deadline = time() + makers.get(task).span;
        works.add(w);
        return works.size();
    }

    boolean submit(int amount) {
        if (!started || size == 0 || amount < 1 || amount > 50 || requests.size() == 8) {
            return false;
        }
        if (requests.isEmpty() && budget * serverPeriod >= (serverDeadline - time()) * size) {
            serverDeadline = time() + serverPeriod;
            budget = size;
        }
        requests.add(amount);
        return true;
    }

    Set<Integer> held(Work w) {
        Set<Integer> all = new HashSet<>();
        if (w.ended < 0) {
            for (Part p : makers.get(w.task).parts) {
                if (p.from < w.done && w.done < p.to) {
                    all.add(p.r);
                }
            }
        }
        return all;
    }

    List<Place> order() {
        List<Place> all = new ArrayList<>();
        for (Work w : works) {
            if (w.ended < 0) {
                all.add(new Place(w.deadline, w.task, 2 + w.task));
            }
        }
        if (!requests.isEmpty()) {
            all.add(new Place(serverDeadline, 100, 1));
        }
        all.sort(Comparator.comparingInt(Place::deadline).thenComparingInt(Place::tie));
        return all;
    }

    int step(int n) {
        if (!started || n < 0 || n > 200) {
            return -1;
        }
        int before = count(2) + served;
        for (int i = 0; i < n; i++) {
            tick();
        }
        return count(2) + served - before;
    }

    private void tick() {
        List<Place> order = order();
        int code = order.isEmpty() ? 0 : runnerOf(order.get(0).code);
        if (code == 1) {
            serve();
        } else if (code > 1) {
            String spell = run(latest(code - 2));
            for (Place p : order) {
                if (p.code == code) {
                    break;
                }
                if (p.code != 1) {
                    latest(p.code - 2).blockedTicks++;
                    latest(p.code - 2).blockings.add(spell);
                }
            }
        }
        codes.add(code);
        for (Work w : works) {
            w.missed = w.missed || w.ended < 0 && w.deadline == time();
        }
    }

    private int runnerOf(int first) {
        if (first == 1 || latest(first - 2).done > 0 || level(first - 2) > systemCeiling()) {
            return first;
        }
        int runner = -1;
        for (int r = 0; r < 4; r++) {
            if (holder(r) >= 0 && ceiling(r) == systemCeiling()) {
                if (runner >= 0 && runner != 2 + holder(r)) {
                    throw new IllegalStateException("two jobs hold the system ceiling");
                }
                runner = 2 + holder(r);
            }
        }
        return runner;
    }

    private void serve() {
        int left = requests.get(0) - 1;
        requests.set(0, left);
        if (left == 0) {
            requests.remove(0);
            served++;
        }
        budget--;
        if (budget == 0) {
            budget = size;
            serverDeadline += serverPeriod;
            usedUp++;
        }
    }

    private String run(Work w) {
        boolean before = !held(w).isEmpty();
        w.done++;
        if (w.done == w.amount) {
            w.ended = time() + 1;
        }
        boolean after = !held(w).isEmpty();
        w.spell += !before && after ? 1 : 0;
        if (!before && !after) {
            return "none";
        }
        return works.indexOf(w) + "/" + w.spell;
    }

    int time() {
        return codes.size();
    }

    int ran(int k) {
        return k < 0 || k > 63 || k >= codes.size() ? -1 : codes.get(codes.size() - 1 - k);
    }

    int queued(int k) {
        return k < 0 || k >= order().size() ? 0 : order().get(k).code;
    }

    int holder(int r) {
        int found = -1;
        for (Work w : works) {
            if (held(w).contains(r)) {
                if (found >= 0) {
                    throw new IllegalStateException("two jobs hold one resource");
                }
                found = w.task;
            }
        }
        return found;
    }

    int systemCeiling() {
        int greatest = 0;
        for (int r = 0; r < 4; r++) {
            greatest = holder(r) >= 0 ? Math.max(greatest, ceiling(r)) : greatest;
        }
        return greatest;
    }

    int job(int task, int k) {
        Work w = latest(task);
        if (w == null || k < 0 || k > 3) {
            return -1;
        }
        return new int[] {w.amount - w.done, w.deadline, w.blockings.size(), w.blockedTicks}[k];
    }

    int misses(int task) {
        if (task < 0 || task >= makers.size()) {
            return -1;
        }
        return (int) works.stream().filter(w -> w.task == task && w.missed).count();
    }

    int worst(int task) {
        if (task < 0 || task >= makers.size()) {
            return -1;
        }
        return works.stream().filter(w -> w.task == task && w.ended >= 0)
            .mapToInt(w -> w.ended - w.released).max().orElse(0);
    }

    int serverFigure(int k) {
        if (size == 0 || k < 0 || k > 5) {
            return -1;
        }
        int needed = requests.stream().mapToInt(Integer::intValue).sum();
        return new int[] {serverDeadline, budget, requests.size(), needed, usedUp, served}[k];
    }

    int count(int k) {
        int found = 0;
        switch (k) {
            case 0:
                return (int) codes.stream().filter(c -> c == 0).count();
            case 1:
                for (int i = 1; i < codes.size(); i++) {
                    found += codes.get(i).equals(codes.get(i - 1)) ? 0 : 1;
                }
                return found;
            case 2:
                return (int) works.stream().filter(w -> w.ended >= 0).count();
            case 3:
                return (int) works.stream().filter(w -> w.ended < 0 && w.done > 0).count();
            default:
                return -1;
        }
    }
}
