import java.util.ArrayList;
import java.util.BitSet;
import java.util.Collections;
import java.util.Comparator;
import java.util.HashMap;
import java.util.List;
import java.util.Map;

/** The document's promises kept in another way than the program's: hour by hour, all plans from the beginning. */
final class Model {
    private record Span(int from, int to) {
    }

    private record Step(int number, int kind, int hours, int waits) {
    }

    private record Spot(int begin, int machine) {
    }

    private static final class Machine {
        final int kind;
        final List<Span> spans = new ArrayList<>();

        Machine(int kind) {
            this.kind = kind;
        }
    }

    private static final class Job {
        int due;
        final int weight;
        final List<Step> steps = new ArrayList<>();

        Job(int due, int weight) {
            this.due = due;
            this.weight = weight;
        }
    }

    private final List<Machine> machines = new ArrayList<>();
    private final List<Job> jobs = new ArrayList<>();
    private final List<Step> steps = new ArrayList<>();
    private long x;

    private List<Integer> plan = null;
    private Map<Integer, Spot> planned = new HashMap<>();
    private boolean stale = false;
    private final long[] about = new long[4];

    private int left;
    private boolean ended;
    private List<Integer> best;
    private long bestCost;

    Model(int seed) {
        x = seed;
    }

    private static void index(boolean fine) {
        if (!fine) {
            throw new IndexOutOfBoundsException();
        }
    }

    private static void argument(boolean fine) {
        if (!fine) {
            throw new IllegalArgumentException();
        }
    }

    private static void state(boolean fine) {
        if (!fine) {
            throw new IllegalStateException();
        }
    }

    private static boolean in(int n, int least, int most) {
        return least <= n && n <= most;
    }

    private boolean isJob(int job) {
        return in(job, 0, jobs.size() - 1);
    }

    int machine(int kind) {
        argument(in(kind, 0, 3));
        state(machines.size() < 6);
        machines.add(new Machine(kind));
        stale = true;
        return machines.size() - 1;
    }

    int out(int machine, int from, int to) {
        index(in(machine, 0, machines.size() - 1));
        argument(in(from, 0, 1000) && in(to, from + 1, 2000));
        List<Span> spans = machines.get(machine).spans;
        state(spans.size() < 8);
        spans.add(new Span(from, to));
        stale = true;
        return spans.size();
    }

    int job(int due, int weight) {
        argument(in(due, 0, 10000) && in(weight, 0, 100));
        state(jobs.size() < 6);
        jobs.add(new Job(due, weight));
        stale = true;
        return jobs.size() - 1;
    }

    int due(int job, int due) {
        index(isJob(job));
        argument(in(due, 0, 10000));
        jobs.get(job).due = due;
        stale = true;
        return 0;
    }

    int step(int job, int kind, int hours, int wait) {
        index(isJob(job));
        argument(in(kind, 0, 3) && in(hours, 1, 100) && in(wait, 0, 100));
        state(jobs.get(job).steps.size() < 4);
        Step step = new Step(steps.size(), kind, hours, wait);
        steps.add(step);
        jobs.get(job).steps.add(step);
        stale = true;
        return step.number();
    }

    private boolean fits(Job job) {
        return job.steps.stream().allMatch(s -> machines.stream().anyMatch(m -> m.kind == s.kind()));
    }

    private boolean allFit() {
        return jobs.stream().allMatch(this::fits);
    }

    private BitSet taken(int machine, Map<Integer, Spot> spots) {
        BitSet hours = new BitSet();
        for (Span span : machines.get(machine).spans) {
            hours.set(span.from(), span.to());
        }
        for (Map.Entry<Integer, Spot> e : spots.entrySet()) {
            if (e.getValue().machine() == machine) {
                int begin = e.getValue().begin();
                hours.set(begin, begin + steps.get(e.getKey()).hours());
            }
        }
        return hours;
    }

    private void place(int job, Map<Integer, Spot> spots) {
        int ready = 0;
        for (Step step : jobs.get(job).steps) {
            Spot first = null;
            for (int m = 0; m < machines.size(); m++) {
                if (machines.get(m).kind == step.kind()) {
                    BitSet taken = taken(m, spots);
                    int hour = ready;
                    while (!taken.get(hour, hour + step.hours()).isEmpty()) {
                        hour++;
                    }
                    if (first == null || hour < first.begin()) {
                        first = new Spot(hour, m);
                    }
                }
            }
            spots.put(step.number(), first);
            ready = first.begin() + step.hours() + step.waits();
        }
    }

    private int end(int job, Map<Integer, Spot> spots) {
        int end = 0;
        for (Step step : jobs.get(job).steps) {
            Spot spot = spots.get(step.number());
            end = spot == null ? 0 : spot.begin() + step.hours();
        }
        return end;
    }

    private Map<Integer, Spot> placed(List<Integer> order) {
        Map<Integer, Spot> spots = new HashMap<>();
        for (int job : order) {
            place(job, spots);
        }
        return spots;
    }

    private long cost(List<Integer> order) {
        Map<Integer, Spot> spots = placed(order);
        long cost = 0;
        for (int job : order) {
            cost += (long) Math.max(0, end(job, spots) - jobs.get(job).due) * jobs.get(job).weight;
        }
        return cost;
    }

    private long bound(List<Integer> order) {
        return order.stream().mapToLong(j -> cost(List.of(j))).sum();
    }

    private List<Integer> all() {
        List<Integer> all = new ArrayList<>();
        for (int j = 0; j < jobs.size(); j++) {
            all.add(j);
        }
        return all;
    }

    int run(int nodes) {
        argument(in(nodes, 1, 2000));
        state(!jobs.isEmpty() && allFit());
        best = all();
        best.sort(Comparator.comparingInt(j -> jobs.get(j).due));
        bestCost = cost(best);
        left = nodes;
        ended = false;
        branch(List.of());
        plan = best;
        about[2] = nodes - left;
        settle();
        stale = false;
        return ended ? 1 : 0;
    }

    private void branch(List<Integer> begun) {
        for (int j = 0; j < jobs.size() && !ended; j++) {
            if (begun.contains(j)) {
                continue;
            }
            if (left == 0) {
                ended = true;
                return;
            }
            left--;
            List<Integer> node = new ArrayList<>(begun);
            node.add(j);
            List<Integer> others = all();
            others.removeAll(node);
            if (cost(node) + bound(others) < bestCost) {
                if (others.isEmpty()) {
                    best = node;
                    bestCost = cost(node);
                } else {
                    branch(node);
                }
            }
        }
    }

    private void settle() {
        Map<Integer, Spot> before = planned;
        planned = placed(plan);
        about[0] = cost(plan);
        about[1] = bound(plan);
        about[3] = planned.entrySet().stream().filter(e -> !e.getValue().equals(before.get(e.getKey()))).count();
    }

    private int draw() {
        x = x * 6364136223846793005L + 1442695040888963407L;
        return (int) ((x >>> 33) % plan.size());
    }

    int improve(int n) {
        argument(in(n, 0, 100));
        state(plan != null && !stale);
        int less = 0;
        for (int i = 0; i < n; i++) {
            List<Integer> changed = new ArrayList<>(plan);
            int a = draw();
            int b = draw();
            Collections.swap(changed, a, b);
            if (cost(changed) < cost(plan)) {
                plan = changed;
                less++;
            }
        }
        settle();
        return less;
    }

    int at(int step, int what) {
        index(in(step, 0, steps.size() - 1) && in(what, 0, 1));
        state(plan != null);
        Spot spot = planned.get(step);
        return spot == null ? -1 : what == 0 ? spot.begin() : spot.machine();
    }

    int order(int k) {
        state(plan != null);
        index(in(k, 0, plan.size() - 1));
        return plan.get(k);
    }

    long about(int what) {
        index(in(what, 0, 3));
        state(plan != null);
        return about[what];
    }

    long alone(int job) {
        index(isJob(job));
        state(fits(jobs.get(job)));
        return cost(List.of(job));
    }

    int promise(int job) {
        index(isJob(job));
        state(plan != null && !stale);
        Map<Integer, Spot> spots = new HashMap<>(planned);
        for (Step step : jobs.get(job).steps) {
            spots.remove(step.number());
        }
        place(job, spots);
        return end(job, spots);
    }

    int clash(int k) {
        argument(k >= 0);
        state(allFit());
        List<Integer> clashes = new ArrayList<>();
        for (int a = 0; a < jobs.size(); a++) {
            for (int b = a + 1; b < jobs.size(); b++) {
                if (bound(List.of(a, b)) == 0 && Math.min(cost(List.of(a, b)), cost(List.of(b, a))) > 0) {
                    clashes.add(8 * a + b);
                }
            }
        }
        return k < clashes.size() ? clashes.get(k) : -1;
    }

    int check() {
        state(plan != null);
        for (Step step : steps) {
            if (!planned.containsKey(step.number())) {
                return 100 + step.number();
            }
        }
        // Rules 2 and 3 are never broken: nothing that was told of a planned step can change.
        for (Step step : steps) {
            Spot spot = planned.get(step.number());
            for (Span span : machines.get(spot.machine()).spans) {
                if (spot.begin() < span.to() && span.from() < spot.begin() + step.hours()) {
                    return 400 + step.number();
                }
            }
        }
        for (int j = 0; j < jobs.size(); j++) {
            if (end(j, planned) > jobs.get(j).due) {
                return 500 + j;
            }
        }
        return 0;
    }
}
