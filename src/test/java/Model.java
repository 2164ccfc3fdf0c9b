import java.math.BigInteger;
import java.nio.charset.StandardCharsets;
import java.util.ArrayDeque;
import java.util.ArrayList;
import java.util.Comparator;
import java.util.Deque;
import java.util.List;
import java.util.NoSuchElementException;
import java.util.Optional;
import java.util.function.ToLongFunction;
import java.util.stream.Collectors;
import java.util.stream.IntStream;

/**
 * A second, slow writing of the document, kept as near to its words as can be, so that RandomRunsTest
 * can hold ShareTickets against it. Nothing is stored that can be counted.
 */
public final class Model {
    static final class User {
        int parent = -1;
        int shares;
        int use;
    }

    static final class Loan {
        int from;
        int to;
        int tickets;
        int begin;
        int length;
    }

    static final class Machine {
        int slots;
        boolean up = true;
    }

    static final class Job {
        int leaf;
        int length;
        int work;
        int state;
        int machine = -1;
        int ended = -1;
        int waited;
    }

    static final class State {
        final List<User> users = new ArrayList<>();
        final List<Loan> loans = new ArrayList<>();
        final List<Machine> machines = new ArrayList<>();
        final List<Job> jobs = new ArrayList<>();
        final int[] set = {10, 50, 5};
        int time;
        int interrupted;
        int lost;

        State() {
            users.add(new User());
        }

        State copy() {
            State c = new State();
            c.users.clear();
            for (User u : users) {
                User v = new User();
                v.parent = u.parent;
                v.shares = u.shares;
                v.use = u.use;
                c.users.add(v);
            }
            for (Loan l : loans) {
                Loan m = new Loan();
                m.from = l.from;
                m.to = l.to;
                m.tickets = l.tickets;
                m.begin = l.begin;
                m.length = l.length;
                c.loans.add(m);
            }
            for (Machine m : machines) {
                Machine n = new Machine();
                n.slots = m.slots;
                n.up = m.up;
                c.machines.add(n);
            }
            for (Job j : jobs) {
                Job k = new Job();
                k.leaf = j.leaf;
                k.length = j.length;
                k.work = j.work;
                k.state = j.state;
                k.machine = j.machine;
                k.ended = j.ended;
                k.waited = j.waited;
                c.jobs.add(k);
            }
            System.arraycopy(set, 0, c.set, 0, 3);
            c.time = time;
            c.interrupted = interrupted;
            c.lost = lost;
            return c;
        }

        boolean leaf(int user) {
            return users.stream().noneMatch(u -> u.parent == user);
        }

        List<Integer> leaves() {
            return IntStream.range(0, users.size()).filter(this::leaf).boxed().collect(Collectors.toList());
        }

        List<Integer> leavesBelow(int user) {
            List<Integer> below = new ArrayList<>();
            for (int l : leaves()) {
                for (int a = l; a >= 0; a = users.get(a).parent) {
                    if (a == user) {
                        below.add(l);
                    }
                }
            }
            return below;
        }

        long base(int user) {
            if (user == 0) {
                return 1000000;
            }
            User u = users.get(user);
            long sum = users.stream().filter(v -> v.parent == u.parent).mapToLong(v -> v.shares).sum();
            return base(u.parent) * u.shares / sum;
        }

        long tickets(int user) {
            long t = base(user);
            if (!leaf(user)) {
                return t;
            }
            for (Loan l : loans) {
                int sign = time < l.begin + l.length ? 1 : time < l.begin + 2 * l.length ? -1 : 0;
                if (l.from == user) {
                    t -= sign * l.tickets;
                }
                if (l.to == user) {
                    t += sign * l.tickets;
                }
            }
            return t < 0 ? 0 : t;
        }

        int count(int user, int state) {
            return (int) jobs.stream().filter(j -> j.leaf == user && j.state == state).count();
        }

        int all(int state) {
            return (int) jobs.stream().filter(j -> j.state == state).count();
        }

        long worth(int user, int k) {
            return BigInteger.valueOf(tickets(user)).multiply(BigInteger.valueOf(1000))
                .divide(BigInteger.valueOf(1000 + users.get(user).use).multiply(BigInteger.valueOf(k))).longValueExact();
        }

        long worthOfJob(int job) {
            Job j = jobs.get(job);
            int load = count(j.leaf, 1);
            return worth(j.leaf, j.state == 1 ? load : load + 1);
        }

        Optional<Integer> bestWaiting() {
            ToLongFunction<Integer> w = this::worthOfJob;
            return IntStream.range(0, jobs.size()).filter(j -> jobs.get(j).state == 0).boxed()
                .min(Comparator.comparingLong(w).reversed().thenComparing(Comparator.naturalOrder()));
        }

        Optional<Integer> leastRunning(int machine) {
            ToLongFunction<Integer> w = this::worthOfJob;
            return runningOn(machine).stream()
                .min(Comparator.comparingLong(w).thenComparing(Comparator.reverseOrder()));
        }

        List<Integer> runningOn(int machine) {
            return IntStream.range(0, jobs.size())
                .filter(j -> jobs.get(j).state == 1 && jobs.get(j).machine == machine)
                .boxed().collect(Collectors.toList());
        }

        int freeOn(int machine) {
            Machine m = machines.get(machine);
            return m.up ? m.slots - runningOn(machine).size() : 0;
        }

        int free() {
            return IntStream.range(0, machines.size()).map(this::freeOn).sum();
        }

        void run(int job, int machine) {
            jobs.get(job).state = 1;
            jobs.get(job).machine = machine;
        }

        void interrupt(int job) {
            Job j = jobs.get(job);
            int kept = 0;
            while (kept + set[2] <= j.work) {
                kept += set[2];
            }
            lost += j.work - kept;
            interrupted++;
            j.work = kept;
            j.state = 0;
            j.machine = -1;
        }

        void fill() {
            while (free() > 0 && bestWaiting().isPresent()) {
                int m = 0;
                while (freeOn(m) == 0) {
                    m++;
                }
                run(bestWaiting().get(), m);
            }
        }

        void preempt() {
            for (int m = 0; m < machines.size(); m++) {
                Optional<Integer> r = leastRunning(m);
                Optional<Integer> w = bestWaiting();
                if (machines.get(m).up && r.isPresent() && w.isPresent()
                    && 100 * worthOfJob(w.get()) > (100 + set[1]) * worthOfJob(r.get())) {
                    interrupt(r.get());
                    run(w.get(), m);
                }
            }
        }

        void tick() {
            time++;
            for (Job j : jobs) {
                if (j.state == 0) {
                    j.waited++;
                }
                if (j.state == 1) {
                    j.work++;
                    users.get(j.leaf).use += 1000;
                    if (j.work == j.length) {
                        j.state = 2;
                        j.machine = -1;
                        j.ended = time;
                    }
                }
            }
            if (time % set[0] == 0) {
                users.forEach(u -> u.use = u.use / 2);
            }
            loans.removeIf(l -> time >= l.begin + 2 * l.length);
            fill();
            preempt();
        }

        long useBelow(int user) {
            return leavesBelow(user).stream().mapToLong(l -> users.get(l).use).sum();
        }

        long below(int leaf) {
            long sum = useBelow(0);
            return base(leaf) - (sum == 0 ? 0 : 1000000L * users.get(leaf).use / sum);
        }
    }

    /** An error in a text. */
    static final class Bad extends RuntimeException {
        private static final long serialVersionUID = 1;
        final int code;
        final int position;

        Bad(int code, int position) {
            this.code = code;
            this.position = position;
        }
    }

    private State s = new State();
    private final Deque<State> past = new ArrayDeque<>();
    private String buffer = "";
    private String text;
    private int at;
    private int errorAt = -1;
    private String written = "";

    private void change() {
        past.addLast(s.copy());
        if (past.size() > 8) {
            past.removeFirst();
        }
    }

    private static void argument(boolean ok) {
        if (!ok) {
            throw new IllegalArgumentException();
        }
    }

    private static void index(boolean ok) {
        if (!ok) {
            throw new IndexOutOfBoundsException();
        }
    }

    private static void state(boolean ok) {
        if (!ok) {
            throw new IllegalStateException();
        }
    }

    private void user(int user) {
        index(user >= 0 && user < s.users.size());
    }

    public int append(int a, int b, int c, int d, int e) {
        state(buffer.length() + 20 <= 600);
        byte[] bytes = java.nio.ByteBuffer.allocate(20).putInt(a).putInt(b).putInt(c).putInt(d).putInt(e).array();
        buffer += new String(bytes, StandardCharsets.ISO_8859_1);
        return buffer.length();
    }

    public int load(int length) {
        argument(length >= 0 && length <= buffer.length());
        text = buffer.substring(0, length);
        at = 0;
        buffer = "";
        errorAt = -1;
        try {
            State read = new State();
            spaces();
            while (at < text.length()) {
                statement(read);
                spaces();
            }
            change();
            s = read;
            s.fill();
            return s.users.size();
        } catch (Bad bad) {
            errorAt = bad.position;
            return bad.code;
        }
    }

    private void spaces() {
        while (at < text.length() && text.charAt(at) == ' ') {
            at++;
        }
    }

    private String longest(String range) {
        int start = at;
        while (at < text.length() && text.substring(at, at + 1).matches(range)) {
            at++;
        }
        return text.substring(start, at);
    }

    private int number(int least, int greatest) {
        spaces();
        int start = at;
        String digits = longest("[0-9]");
        if (digits.isEmpty()) {
            throw new Bad(-2, start);
        }
        BigInteger n = new BigInteger(digits);
        if (n.compareTo(BigInteger.valueOf(least)) < 0 || n.compareTo(BigInteger.valueOf(greatest)) > 0) {
            throw new Bad(-3, start);
        }
        return n.intValue();
    }

    private int startOfNumber() {
        int i = at;
        while (text.charAt(i) == ' ') {
            i++;
        }
        return i;
    }

    private void statement(State read) {
        int start = at;
        String word = longest("[a-z]");
        if (word.equals("user")) {
            if (read.users.size() == 12) {
                throw new Bad(-4, start);
            }
            User u = new User();
            int parentAt = Math.min(at, text.length());
            u.parent = number(0, read.users.size() - 1);
            if (read.jobs.stream().anyMatch(j -> j.leaf == u.parent)) {
                at = parentAt;
                throw new Bad(-3, startOfNumber());
            }
            u.shares = number(1, 99);
            read.users.add(u);
        } else if (word.equals("machine")) {
            if (read.machines.size() == 6) {
                throw new Bad(-4, start);
            }
            Machine m = new Machine();
            m.slots = number(1, 4);
            read.machines.add(m);
        } else if (word.equals("job")) {
            if (read.jobs.size() == 30) {
                throw new Bad(-4, start);
            }
            Job j = new Job();
            int leafAt = at;
            j.leaf = number(0, read.users.size() - 1);
            if (!read.leaf(j.leaf)) {
                at = leafAt;
                throw new Bad(-3, startOfNumber());
            }
            j.length = number(1, 60);
            read.jobs.add(j);
        } else if (word.equals("half")) {
            read.set[0] = number(1, 50);
        } else if (word.equals("margin")) {
            read.set[1] = number(0, 400);
        } else if (word.equals("check")) {
            read.set[2] = number(1, 20);
        } else {
            throw new Bad(-2, start);
        }
        spaces();
        if (at >= text.length() || text.charAt(at) != ';') {
            throw new Bad(-2, at);
        }
        at++;
    }

    public int errorPosition() {
        return errorAt;
    }

    public int count(int what) {
        argument(what >= 0 && what <= 12);
        int[] all = {s.users.size(), s.machines.size(), s.jobs.size(), s.loans.size(), s.time, s.set[0], s.set[1],
            s.set[2], s.all(0), s.all(1), s.free(), s.interrupted, s.lost};
        return all[what];
    }

    public int user(int user, int what) {
        user(user);
        argument(what >= 0 && what <= 7);
        List<Integer> below = s.leavesBelow(user);
        long[] all = {s.users.get(user).parent, s.users.get(user).shares,
            s.users.stream().filter(u -> u.parent == user).count(), s.base(user), s.tickets(user), s.useBelow(user),
            below.stream().mapToInt(l -> s.count(l, 1)).sum(), below.stream().mapToInt(l -> s.count(l, 0)).sum()};
        return (int) all[what];
    }

    public int addUser(int parent, int shares) {
        user(parent);
        argument(shares >= 1 && shares <= 99);
        state(s.users.size() < 12 && s.jobs.stream().noneMatch(j -> j.leaf == parent)
            && s.loans.stream().noneMatch(l -> l.from == parent || l.to == parent));
        change();
        User u = new User();
        u.parent = parent;
        u.shares = shares;
        s.users.add(u);
        return s.users.size() - 1;
    }

    public int setShares(int user, int shares) {
        user(user);
        argument(shares >= 1 && shares <= 99 && user != 0);
        change();
        int previous = s.users.get(user).shares;
        s.users.get(user).shares = shares;
        return previous;
    }

    public int lend(int from, int to, int tickets, int ticks) {
        user(from);
        user(to);
        argument(from != to && tickets >= 1 && tickets <= 500000 && ticks >= 1 && ticks <= 50);
        state(s.leaf(from) && s.leaf(to) && s.loans.size() < 8 && tickets <= s.tickets(from));
        change();
        Loan l = new Loan();
        l.from = from;
        l.to = to;
        l.tickets = tickets;
        l.begin = s.time;
        l.length = ticks;
        s.loans.add(l);
        return s.loans.size() - 1;
    }

    public int loan(int loan, int what) {
        index(loan >= 0 && loan < s.loans.size());
        argument(what >= 0 && what <= 4);
        Loan l = s.loans.get(loan);
        int[] all = {l.from, l.to, l.tickets, s.time < l.begin + l.length ? 0 : 1, l.begin + 2 * l.length};
        return all[what];
    }

    public int balance(int user) {
        user(user);
        int sum = 0;
        for (Loan l : s.loans) {
            for (int t = s.time; t < l.begin + 2 * l.length; t++) {
                int toBorrower = t < l.begin + l.length ? l.tickets : -l.tickets;
                sum += user == l.to ? toBorrower : user == l.from ? -toBorrower : 0;
            }
        }
        return sum;
    }

    public int ranked(int place) {
        List<Integer> leaves = s.leaves();
        index(place >= 0 && place < leaves.size());
        ToLongFunction<Integer> w = l -> s.worth(l, s.count(l, 1) + 1);
        leaves.sort(Comparator.comparingLong(w).reversed());
        return leaves.get(place);
    }

    public long worth(int user, int k) {
        user(user);
        argument(k >= 1 && k <= 30);
        state(s.leaf(user));
        return s.worth(user, k);
    }

    public int machine(int machine, int what) {
        index(machine >= 0 && machine < s.machines.size());
        argument(what >= 0 && what <= 3);
        Machine m = s.machines.get(machine);
        int[] all = {m.slots, m.up ? 1 : 0, s.runningOn(machine).size(), s.leastRunning(machine).orElse(-1)};
        return all[what];
    }

    public int job(int job, int what) {
        index(job >= 0 && job < s.jobs.size());
        argument(what >= 0 && what <= 6);
        Job j = s.jobs.get(job);
        int[] all = {j.leaf, j.length, j.work, j.state, j.machine, j.ended, j.waited};
        return all[what];
    }

    public int first() {
        return s.bestWaiting().orElseThrow(NoSuchElementException::new);
    }

    public int submit(int user, int length) {
        user(user);
        argument(length >= 1 && length <= 60);
        state(s.leaf(user) && s.jobs.size() < 30);
        change();
        Job j = new Job();
        j.leaf = user;
        j.length = length;
        s.jobs.add(j);
        s.fill();
        return s.jobs.size() - 1;
    }

    public int cancel(int job) {
        index(job >= 0 && job < s.jobs.size());
        state(s.jobs.get(job).state < 2);
        change();
        Job j = s.jobs.get(job);
        j.state = 3;
        j.machine = -1;
        j.ended = s.time;
        s.fill();
        return j.work;
    }

    public int setUp(int machine, boolean up) {
        index(machine >= 0 && machine < s.machines.size());
        change();
        s.machines.get(machine).up = up;
        List<Integer> hit = up ? List.of() : s.runningOn(machine);
        hit.forEach(s::interrupt);
        s.fill();
        return hit.size();
    }

    public int set(int what, int value) {
        argument(what == 0 && value >= 1 && value <= 50 || what == 1 && value >= 0 && value <= 400
            || what == 2 && value >= 1 && value <= 20);
        change();
        int previous = s.set[what];
        s.set[what] = value;
        return previous;
    }

    public int tick(int ticks) {
        argument(ticks >= 1 && ticks <= 60);
        state(s.time + ticks <= 9999);
        change();
        int before = s.all(2);
        for (int i = 0; i < ticks; i++) {
            s.tick();
        }
        return s.all(2) - before;
    }

    public int finishedIn(int job) {
        index(job >= 0 && job < s.jobs.size());
        state(s.jobs.get(job).state < 2);
        State t = s.copy();
        for (int i = 1; i <= 400; i++) {
            t.tick();
            if (t.jobs.get(job).state == 2) {
                return i;
            }
        }
        return -1;
    }

    public int ahead(int ticks, int what) {
        argument(ticks >= 1 && ticks <= 100 && what >= 0 && what <= 3);
        State t = s.copy();
        for (int i = 0; i < ticks; i++) {
            t.tick();
        }
        return what == 0 ? t.all(2) : what == 1 ? t.all(0) : what == 2 ? t.interrupted : t.free();
    }

    public int drift() {
        return (int) s.leaves().stream().mapToLong(l -> Math.abs(s.below(l))).sum();
    }

    public float part(int user) {
        user(user);
        if (s.useBelow(0) == 0) {
            throw new NoSuchElementException();
        }
        float above = s.useBelow(user);
        float under = s.useBelow(0);
        return above / under;
    }

    public int neediest() {
        int best = -1;
        for (int l : s.leaves()) {
            if (best < 0 || s.below(l) > s.below(best)) {
                best = l;
            }
        }
        return best;
    }

    public int writeMachines() {
        List<String> parts = new ArrayList<>();
        for (int m = 0; m < s.machines.size(); m++) {
            String running = s.runningOn(m).stream().map(String::valueOf).collect(Collectors.joining(","));
            parts.add(!s.machines.get(m).up ? "x" : running.isEmpty() ? "-" : running);
        }
        written = String.join(" ", parts);
        return written.length();
    }

    public int writtenByte(int index) {
        index(index >= 0 && index < written.length());
        return written.charAt(index);
    }

    public int undo() {
        state(!past.isEmpty());
        s = past.removeLast();
        return past.size();
    }
}
