import java.util.NoSuchElementException;

/**
 * Shares of users of many machines: a tree of users whose shares become tickets, use that decays by
 * halves, jobs that run in slots of machines by the worth of their users, preemption, loans of
 * tickets and predictions. The document's promises say what each public method does.
 *
 * <p>All rows are made with the object and used again, since what a run makes is never given back.
 */
public final class ShareTickets {
    public static final int NONE = -1;
    public static final int SYNTAX_ERROR = -2;
    public static final int VALUE_ERROR = -3;
    public static final int TOO_MANY = -4;

    private static final int MOST_USERS = 12;
    private static final int MOST_SHARES = 99;
    private static final int MOST_LOANS = 8;
    private static final int MOST_LENT = 500000;
    private static final int MOST_LOAN_TICKS = 50;
    private static final int MOST_MACHINES = 6;
    private static final int MOST_SLOTS = 4;
    private static final int MOST_JOBS = 30;
    private static final int MOST_LENGTH = 60;
    private static final int MOST_BYTES = 600;
    private static final int BYTES_APPENDED = 20;
    private static final int MOST_CHANGES = 8;
    private static final int MOST_TICKS = 60;
    private static final int LAST_TIME = 9999;
    private static final int FARTHEST_FINISH = 400;
    private static final int FARTHEST_AHEAD = 100;
    private static final int MILLION = 1000000;
    private static final int USE_UNIT = 1000;

    private static final int WAITING = 0;
    private static final int RUNNING = 1;
    private static final int FINISHED = 2;
    private static final int CANCELLED = 3;

    private static final int HALF_LIFE = 0;
    private static final int MARGIN = 1;
    private static final int CHECKPOINT = 2;
    private static final int SETTINGS = 3;
    private static final int[] FIRST_SETTING = {10, 50, 5};
    private static final int[] LEAST_SETTING = {1, 0, 1};
    private static final int[] GREATEST_SETTING = {50, 400, 20};

    private final Place present = new Place();
    /** A second place: texts are read into it, and predictions go on in it. */
    private final Place thought = new Place();
    private final History history = new History();
    private final Text text = new Text();
    private final Note written = new Note();

    public ShareTickets() {
    }

    // ---- setup

    public int append(int a, int b, int c, int d, int e) throws IllegalStateException {
        if (text.filled > MOST_BYTES - BYTES_APPENDED) {
            throw new IllegalStateException("the text buffer is full");
        }
        text.put(a);
        text.put(b);
        text.put(c);
        text.put(d);
        text.put(e);
        return text.filled;
    }

    public int load(int length) throws IllegalArgumentException {
        if (length < 0 || length > text.filled) {
            throw new IllegalArgumentException("the buffer has no such length");
        }
        text.read(length, thought);
        if (text.error != 0) {
            return text.error;
        }
        history.keep(present);
        present.copyFrom(thought);
        present.settle();
        return present.tree.size;
    }

    public int errorPosition() {
        return text.errorAt;
    }

    public int count(int what) throws IllegalArgumentException {
        switch (what) {
            case 0: return present.tree.size;
            case 1: return present.machines.size;
            case 2: return present.jobs.size;
            case 3: return present.loans.size;
            case 4: return present.time;
            case 5: return present.settings[HALF_LIFE];
            case 6: return present.settings[MARGIN];
            case 7: return present.settings[CHECKPOINT];
            case 8: return present.jobs.inState(WAITING);
            case 9: return present.jobs.inState(RUNNING);
            case 10: return present.freeSlots();
            case 11: return present.interruptions;
            case 12: return present.lostWork;
            default: throw new IllegalArgumentException("no such number of the place");
        }
    }

    // ---- users and loans

    public int user(int user, int what) throws IndexOutOfBoundsException, IllegalArgumentException {
        needUser(user);
        Tree tree = present.tree;
        present.scale.survey(present);
        switch (what) {
            case 0: return tree.parent[user];
            case 1: return tree.shares[user];
            case 2: return tree.childrenOf(user);
            case 3: return tree.base[user];
            case 4: return present.scale.tickets[user];
            case 5: return tree.sumBelow(user, tree.use);
            case 6: return tree.sumBelow(user, present.scale.load);
            case 7: return tree.sumBelow(user, present.scale.waiting);
            default: throw new IllegalArgumentException("no such number of a user");
        }
    }

    public int addUser(int parent, int shares)
            throws IndexOutOfBoundsException, IllegalArgumentException, IllegalStateException {
        needUser(parent);
        needRange(shares, 1, MOST_SHARES);
        if (present.tree.isFull() || present.jobs.anyOf(parent) || present.loans.anyOf(parent)) {
            throw new IllegalStateException("no user can be added there");
        }
        history.keep(present);
        present.tree.add(parent, shares);
        return present.tree.size - 1;
    }

    public int setShares(int user, int shares) throws IndexOutOfBoundsException, IllegalArgumentException {
        needUser(user);
        needRange(shares, 1, MOST_SHARES);
        if (user == 0) {
            throw new IllegalArgumentException("the root has no shares");
        }
        int previous = present.tree.shares[user];
        history.keep(present);
        present.tree.changeShares(user, shares);
        return previous;
    }

    public int lend(int from, int to, int tickets, int ticks)
            throws IndexOutOfBoundsException, IllegalArgumentException, IllegalStateException {
        needUser(from);
        needUser(to);
        if (from == to) {
            throw new IllegalArgumentException("a user can't lend to itself");
        }
        needRange(tickets, 1, MOST_LENT);
        needRange(ticks, 1, MOST_LOAN_TICKS);
        needLeaf(from);
        needLeaf(to);
        present.scale.survey(present);
        if (present.loans.isFull() || tickets > present.scale.tickets[from]) {
            throw new IllegalStateException("this can't be lent");
        }
        history.keep(present);
        present.loans.add(from, to, tickets, present.time, ticks);
        return present.loans.size - 1;
    }

    public int loan(int loan, int what) throws IndexOutOfBoundsException, IllegalArgumentException {
        Loans loans = present.loans;
        if (!loans.has(loan)) {
            throw new IndexOutOfBoundsException("no such loan");
        }
        switch (what) {
            case 0: return loans.from[loan];
            case 1: return loans.to[loan];
            case 2: return loans.tickets[loan];
            case 3: return loans.isLent(loan, present.time) ? 0 : 1;
            case 4: return loans.goneAt(loan);
            default: throw new IllegalArgumentException("no such number of a loan");
        }
    }

    public int balance(int user) throws IndexOutOfBoundsException {
        needUser(user);
        return present.loans.balanceOf(user, present.time);
    }

    public int ranked(int place) throws IndexOutOfBoundsException {
        int leaf = present.leafRanked(place);
        if (leaf == NONE) {
            throw new IndexOutOfBoundsException("not so many leaves");
        }
        return leaf;
    }

    public long worth(int user, int k)
            throws IndexOutOfBoundsException, IllegalArgumentException, IllegalStateException {
        needUser(user);
        needRange(k, 1, MOST_JOBS);
        needLeaf(user);
        present.scale.survey(present);
        return worthOf(present.scale.tickets[user], present.tree.use[user], k);
    }

    // ---- machines and jobs

    public int machine(int machine, int what) throws IndexOutOfBoundsException, IllegalArgumentException {
        needMachine(machine);
        present.scale.survey(present);
        switch (what) {
            case 0: return present.machines.slots[machine];
            case 1: return present.machines.isUp(machine) ? 1 : 0;
            case 2: return present.scale.busy[machine];
            case 3: return present.leastRunning(machine);
            default: throw new IllegalArgumentException("no such number of a machine");
        }
    }

    public int job(int job, int what) throws IndexOutOfBoundsException, IllegalArgumentException {
        needJob(job);
        Jobs jobs = present.jobs;
        switch (what) {
            case 0: return jobs.leaf[job];
            case 1: return jobs.length[job];
            case 2: return jobs.work[job];
            case 3: return jobs.state[job];
            case 4: return jobs.machine[job];
            case 5: return jobs.ended[job];
            case 6: return jobs.waited[job];
            default: throw new IllegalArgumentException("no such number of a job");
        }
    }

    public int first() throws NoSuchElementException {
        present.scale.survey(present);
        int job = present.bestWaiting();
        if (job == NONE) {
            throw new NoSuchElementException("no job is waiting");
        }
        return job;
    }

    public int submit(int user, int length)
            throws IndexOutOfBoundsException, IllegalArgumentException, IllegalStateException {
        needUser(user);
        needRange(length, 1, MOST_LENGTH);
        needLeaf(user);
        if (present.jobs.isFull()) {
            throw new IllegalStateException("no more jobs can be made");
        }
        history.keep(present);
        present.jobs.add(user, length);
        present.settle();
        return present.jobs.size - 1;
    }

    public int cancel(int job) throws IndexOutOfBoundsException, IllegalStateException {
        needJob(job);
        needOpen(job);
        history.keep(present);
        present.jobs.end(job, CANCELLED, present.time);
        present.settle();
        return present.jobs.work[job];
    }

    public int setUp(int machine, boolean up) throws IndexOutOfBoundsException {
        needMachine(machine);
        history.keep(present);
        int before = present.interruptions;
        present.switchMachine(machine, up);
        return present.interruptions - before;
    }

    public int set(int what, int value) throws IllegalArgumentException {
        if (what < 0 || what >= SETTINGS) {
            throw new IllegalArgumentException("no such setting");
        }
        needRange(value, LEAST_SETTING[what], GREATEST_SETTING[what]);
        history.keep(present);
        int previous = present.settings[what];
        present.settings[what] = value;
        return previous;
    }

    // ---- time and predictions

    public int tick(int ticks) throws IllegalArgumentException, IllegalStateException {
        needRange(ticks, 1, MOST_TICKS);
        if (present.time > LAST_TIME - ticks) {
            throw new IllegalStateException("time ends before that");
        }
        history.keep(present);
        int before = present.jobs.inState(FINISHED);
        for (int i = 0; i < ticks; i++) {
            present.passTick();
        }
        return present.jobs.inState(FINISHED) - before;
    }

    public int finishedIn(int job) throws IndexOutOfBoundsException, IllegalStateException {
        needJob(job);
        needOpen(job);
        thought.copyFrom(present);
        for (int ticks = 1; ticks <= FARTHEST_FINISH; ticks++) {
            thought.passTick();
            if (thought.jobs.state[job] == FINISHED) {
                return ticks;
            }
        }
        return NONE;
    }

    public int ahead(int ticks, int what) throws IllegalArgumentException {
        needRange(ticks, 1, FARTHEST_AHEAD);
        needRange(what, 0, 3);
        thought.copyFrom(present);
        for (int i = 0; i < ticks; i++) {
            thought.passTick();
        }
        switch (what) {
            case 0: return thought.jobs.inState(FINISHED);
            case 1: return thought.jobs.inState(WAITING);
            case 2: return thought.interruptions;
            default: return thought.freeSlots();
        }
    }

    public int drift() {
        Tree tree = present.tree;
        int total = tree.sumBelow(0, tree.use);
        int sum = 0;
        for (int user = 0; user < tree.size; user++) {
            if (tree.isLeaf(user)) {
                sum += Math.abs(tree.need(user, total));
            }
        }
        return sum;
    }

    public float part(int user) throws IndexOutOfBoundsException, NoSuchElementException {
        needUser(user);
        Tree tree = present.tree;
        int total = tree.sumBelow(0, tree.use);
        if (total == 0) {
            throw new NoSuchElementException("nothing was used");
        }
        return (float) tree.sumBelow(user, tree.use) / (float) total;
    }

    public int neediest() {
        Tree tree = present.tree;
        int total = tree.sumBelow(0, tree.use);
        int neediest = NONE;
        int greatest = 0;
        for (int user = 0; user < tree.size; user++) {
            if (tree.isLeaf(user) && (neediest == NONE || tree.need(user, total) > greatest)) {
                neediest = user;
                greatest = tree.need(user, total);
            }
        }
        return neediest;
    }

    // ---- texts and undo

    public int writeMachines() {
        written.clear();
        for (int machine = 0; machine < present.machines.size; machine++) {
            if (machine > 0) {
                written.put(' ');
            }
            written.putMachine(present, machine);
        }
        return written.length;
    }

    public int writtenByte(int index) throws IndexOutOfBoundsException {
        if (index < 0 || index >= written.length) {
            throw new IndexOutOfBoundsException("no such byte was written");
        }
        return written.bytes[index];
    }

    public int undo() throws IllegalStateException {
        if (history.size == 0) {
            throw new IllegalStateException("no change to undo");
        }
        history.restore(present);
        return history.size;
    }

    // ---- what several calls ask for

    private void needUser(int user) {
        if (!present.tree.has(user)) {
            throw new IndexOutOfBoundsException("no such user");
        }
    }

    private void needLeaf(int user) {
        if (!present.tree.isLeaf(user)) {
            throw new IllegalStateException("the user is no leaf");
        }
    }

    private void needMachine(int machine) {
        if (!present.machines.has(machine)) {
            throw new IndexOutOfBoundsException("no such machine");
        }
    }

    private void needJob(int job) {
        if (!present.jobs.has(job)) {
            throw new IndexOutOfBoundsException("no such job");
        }
    }

    private void needOpen(int job) {
        if (!present.jobs.isOpen(job)) {
            throw new IllegalStateException("the job is finished or cancelled");
        }
    }

    private static void needRange(int number, int least, int greatest) {
        if (number < least || number > greatest) {
            throw new IllegalArgumentException("a number out of its range");
        }
    }

    private static long worthOf(int tickets, int use, int k) {
        long divisor = ((long) USE_UNIT + use) * k;
        return divisor > 0 ? (long) tickets * 1000 / divisor : 0;
    }

    /** The users with their shares and uses; a user's parent always has a lower number. */
    private static final class Tree {
        int size;
        final int[] parent = new int[MOST_USERS];
        final int[] shares = new int[MOST_USERS];
        final int[] use = new int[MOST_USERS];
        final int[] base = new int[MOST_USERS];

        Tree() {
            clear();
        }

        void clear() {
            size = 1;
            parent[0] = NONE;
            shares[0] = 0;
            use[0] = 0;
            base[0] = MILLION;
        }

        void copyFrom(Tree other) {
            size = other.size;
            System.arraycopy(other.parent, 0, parent, 0, MOST_USERS);
            System.arraycopy(other.shares, 0, shares, 0, MOST_USERS);
            System.arraycopy(other.use, 0, use, 0, MOST_USERS);
            System.arraycopy(other.base, 0, base, 0, MOST_USERS);
        }

        boolean has(int user) {
            return user >= 0 && user < size;
        }

        boolean isFull() {
            return size >= MOST_USERS;
        }

        boolean isLeaf(int user) {
            return childrenOf(user) == 0;
        }

        int childrenOf(int user) {
            int children = 0;
            for (int child = 1; child < size; child++) {
                if (parent[child] == user) {
                    children++;
                }
            }
            return children;
        }

        void add(int newParent, int newShares) {
            if (isFull() || !has(newParent)) {
                return;
            }
            parent[size] = newParent;
            shares[size] = newShares;
            use[size] = 0;
            size++;
            dealBase();
        }

        void changeShares(int user, int newShares) {
            if (has(user)) {
                shares[user] = newShares;
                dealBase();
            }
        }

        /** Parents come before their children, so one pass suffices. */
        private void dealBase() {
            for (int user = 1; user < size; user++) {
                int above = parent[user];
                int sum = sharesUnder(above);
                base[user] = has(above) && sum > 0 ? base[above] * shares[user] / sum : 0;
            }
        }

        private int sharesUnder(int above) {
            int sum = 0;
            for (int child = 1; child < size; child++) {
                if (parent[child] == above) {
                    sum += shares[child];
                }
            }
            return sum;
        }

        /** The sum of a row over the leaves below a user; for a leaf, its own entry. */
        int sumBelow(int top, int[] row) {
            int sum = 0;
            for (int user = 0; user < size && user < row.length; user++) {
                if (isLeaf(user) && isUnder(user, top)) {
                    sum += row[user];
                }
            }
            return sum;
        }

        private boolean isUnder(int user, int top) {
            int above = user;
            for (int i = 0; i < MOST_USERS && has(above); i++) {
                if (above == top) {
                    return true;
                }
                above = parent[above];
            }
            return false;
        }

        void addUse(int user) {
            if (has(user)) {
                use[user] += USE_UNIT;
            }
        }

        void halveUses() {
            for (int user = 0; user < size; user++) {
                use[user] /= 2;
            }
        }

        /** How far a leaf's part of all uses is below its base tickets, in millionths. */
        int need(int user, int total) {
            if (!has(user)) {
                return 0;
            }
            long used = total > 0 ? (long) MILLION * use[user] / total : 0;
            return base[user] - (int) used;
        }
    }

    /** The loans in the order in which they were made. */
    private static final class Loans {
        int size;
        final int[] from = new int[MOST_LOANS];
        final int[] to = new int[MOST_LOANS];
        final int[] tickets = new int[MOST_LOANS];
        final int[] begin = new int[MOST_LOANS];
        final int[] ticks = new int[MOST_LOANS];

        void clear() {
            size = 0;
        }

        void copyFrom(Loans other) {
            size = other.size;
            System.arraycopy(other.from, 0, from, 0, MOST_LOANS);
            System.arraycopy(other.to, 0, to, 0, MOST_LOANS);
            System.arraycopy(other.tickets, 0, tickets, 0, MOST_LOANS);
            System.arraycopy(other.begin, 0, begin, 0, MOST_LOANS);
            System.arraycopy(other.ticks, 0, ticks, 0, MOST_LOANS);
        }

        boolean has(int loan) {
            return loan >= 0 && loan < size;
        }

        boolean isFull() {
            return size >= MOST_LOANS;
        }

        boolean anyOf(int user) {
            for (int loan = 0; loan < size; loan++) {
                if (from[loan] == user || to[loan] == user) {
                    return true;
                }
            }
            return false;
        }

        void add(int lender, int borrower, int lent, int time, int length) {
            if (isFull()) {
                return;
            }
            from[size] = lender;
            to[size] = borrower;
            tickets[size] = lent;
            begin[size] = time;
            ticks[size] = length;
            size++;
        }

        private int dueAt(int loan) {
            return has(loan) ? begin[loan] + ticks[loan] : 0;
        }

        int goneAt(int loan) {
            return has(loan) ? begin[loan] + 2 * ticks[loan] : 0;
        }

        boolean isLent(int loan, int time) {
            return time < dueAt(loan);
        }

        void dropOver(int time) {
            int kept = 0;
            for (int loan = 0; loan < size; loan++) {
                if (time < goneAt(loan)) {
                    from[kept] = from[loan];
                    to[kept] = to[loan];
                    tickets[kept] = tickets[loan];
                    begin[kept] = begin[loan];
                    ticks[kept] = ticks[loan];
                    kept++;
                }
            }
            size = kept;
        }

        int balanceOf(int user, int time) {
            int sum = 0;
            for (int loan = 0; loan < size; loan++) {
                int lentTicks = Math.max(0, dueAt(loan) - time);
                int backTicks = goneAt(loan) - Math.max(dueAt(loan), time);
                int gain = (lentTicks - backTicks) * tickets[loan];
                if (to[loan] == user) {
                    sum += gain;
                }
                if (from[loan] == user) {
                    sum -= gain;
                }
            }
            return sum;
        }
    }

    /** The machines with their slots. */
    private static final class Machines {
        int size;
        final int[] slots = new int[MOST_MACHINES];
        final int[] up = new int[MOST_MACHINES];

        void clear() {
            size = 0;
        }

        void copyFrom(Machines other) {
            size = other.size;
            System.arraycopy(other.slots, 0, slots, 0, MOST_MACHINES);
            System.arraycopy(other.up, 0, up, 0, MOST_MACHINES);
        }

        boolean has(int machine) {
            return machine >= 0 && machine < size;
        }

        boolean isFull() {
            return size >= MOST_MACHINES;
        }

        boolean isUp(int machine) {
            return has(machine) && up[machine] == 1;
        }

        void add(int newSlots) {
            if (isFull()) {
                return;
            }
            slots[size] = newSlots;
            up[size] = 1;
            size++;
        }

        void turn(int machine, boolean on) {
            if (has(machine)) {
                up[machine] = on ? 1 : 0;
            }
        }
    }

    /** All jobs that were ever made. */
    private static final class Jobs {
        int size;
        final int[] leaf = new int[MOST_JOBS];
        final int[] length = new int[MOST_JOBS];
        final int[] work = new int[MOST_JOBS];
        final int[] state = new int[MOST_JOBS];
        final int[] machine = new int[MOST_JOBS];
        final int[] ended = new int[MOST_JOBS];
        final int[] waited = new int[MOST_JOBS];

        void clear() {
            size = 0;
        }

        void copyFrom(Jobs other) {
            size = other.size;
            System.arraycopy(other.leaf, 0, leaf, 0, MOST_JOBS);
            System.arraycopy(other.length, 0, length, 0, MOST_JOBS);
            System.arraycopy(other.work, 0, work, 0, MOST_JOBS);
            System.arraycopy(other.state, 0, state, 0, MOST_JOBS);
            System.arraycopy(other.machine, 0, machine, 0, MOST_JOBS);
            System.arraycopy(other.ended, 0, ended, 0, MOST_JOBS);
            System.arraycopy(other.waited, 0, waited, 0, MOST_JOBS);
        }

        boolean has(int job) {
            return job >= 0 && job < size;
        }

        boolean isFull() {
            return size >= MOST_JOBS;
        }

        boolean isOpen(int job) {
            return has(job) && (state[job] == WAITING || state[job] == RUNNING);
        }

        boolean runsOn(int job, int where) {
            return has(job) && state[job] == RUNNING && machine[job] == where;
        }

        boolean anyOf(int user) {
            for (int job = 0; job < size; job++) {
                if (leaf[job] == user) {
                    return true;
                }
            }
            return false;
        }

        int inState(int wanted) {
            int jobs = 0;
            for (int job = 0; job < size; job++) {
                if (state[job] == wanted) {
                    jobs++;
                }
            }
            return jobs;
        }

        void add(int user, int newLength) {
            if (isFull()) {
                return;
            }
            leaf[size] = user;
            length[size] = newLength;
            work[size] = 0;
            state[size] = WAITING;
            machine[size] = NONE;
            ended[size] = NONE;
            waited[size] = 0;
            size++;
        }

        void start(int job, int where) {
            if (has(job)) {
                state[job] = RUNNING;
                machine[job] = where;
            }
        }

        void stop(int job, int keptWork) {
            if (has(job)) {
                state[job] = WAITING;
                machine[job] = NONE;
                work[job] = keptWork;
            }
        }

        void end(int job, int lastState, int time) {
            if (has(job)) {
                state[job] = lastState;
                machine[job] = NONE;
                ended[job] = time;
            }
        }
    }

    /**
     * What follows from a place and changes with each job that begins or stops: it is counted anew
     * by survey, and kept true by shift as long as only running jobs change.
     */
    private static final class Scale {
        final int[] load = new int[MOST_USERS];
        final int[] waiting = new int[MOST_USERS];
        final int[] tickets = new int[MOST_USERS];
        final int[] busy = new int[MOST_MACHINES];
        /** The worth of a waiting job of each leaf. */
        final long[] nextWorth = new long[MOST_USERS];
        /** The worth of a running job of each leaf. */
        final long[] nowWorth = new long[MOST_USERS];

        void survey(Place place) {
            countJobs(place);
            dealTickets(place);
            for (int user = 0; user < place.tree.size; user++) {
                weigh(place.tree, user);
            }
        }

        private void countJobs(Place place) {
            for (int user = 0; user < MOST_USERS; user++) {
                load[user] = 0;
                waiting[user] = 0;
            }
            for (int machine = 0; machine < MOST_MACHINES; machine++) {
                busy[machine] = 0;
            }
            Jobs jobs = place.jobs;
            for (int job = 0; job < jobs.size; job++) {
                int leaf = jobs.leaf[job];
                int machine = jobs.machine[job];
                if (!place.tree.has(leaf)) {
                    continue;
                }
                if (jobs.state[job] == WAITING) {
                    waiting[leaf]++;
                } else if (jobs.state[job] == RUNNING && place.machines.has(machine)) {
                    load[leaf]++;
                    busy[machine]++;
                }
            }
        }

        private void dealTickets(Place place) {
            Tree tree = place.tree;
            Loans loans = place.loans;
            System.arraycopy(tree.base, 0, tickets, 0, MOST_USERS);
            for (int loan = 0; loan < loans.size; loan++) {
                int from = loans.from[loan];
                int to = loans.to[loan];
                if (tree.has(from) && tree.has(to)) {
                    int moved = loans.isLent(loan, place.time) ? loans.tickets[loan] : -loans.tickets[loan];
                    tickets[from] -= moved;
                    tickets[to] += moved;
                }
            }
            // Only the sum over all loans is cut at 0, not what single ones leave.
            for (int user = 0; user < tree.size; user++) {
                tickets[user] = Math.max(0, tickets[user]);
            }
        }

        private void weigh(Tree tree, int user) {
            if (tree.has(user)) {
                nextWorth[user] = worthOf(tickets[user], tree.use[user], load[user] + 1);
                nowWorth[user] = worthOf(tickets[user], tree.use[user], load[user]);
            }
        }

        void shift(Place place, int leaf, int machine, int by) {
            if (place.tree.has(leaf) && place.machines.has(machine)) {
                load[leaf] += by;
                busy[machine] += by;
                weigh(place.tree, leaf);
            }
        }

        long nextWorthOf(int leaf) {
            return leaf >= 0 && leaf < MOST_USERS ? nextWorth[leaf] : 0;
        }

        long nowWorthOf(int leaf) {
            return leaf >= 0 && leaf < MOST_USERS ? nowWorth[leaf] : 0;
        }
    }

    /** All that a change can change, and what happens by itself: filling, preemption and ticks. */
    private static final class Place {
        final Tree tree = new Tree();
        final Loans loans = new Loans();
        final Machines machines = new Machines();
        final Jobs jobs = new Jobs();
        final Scale scale = new Scale();
        final int[] settings = new int[SETTINGS];
        int time;
        int interruptions;
        int lostWork;

        Place() {
            clear();
        }

        void clear() {
            tree.clear();
            loans.clear();
            machines.clear();
            jobs.clear();
            System.arraycopy(FIRST_SETTING, 0, settings, 0, SETTINGS);
            time = 0;
            interruptions = 0;
            lostWork = 0;
        }

        /** The scale is left out: whoever needs it surveys first. */
        void copyFrom(Place other) {
            tree.copyFrom(other.tree);
            loans.copyFrom(other.loans);
            machines.copyFrom(other.machines);
            jobs.copyFrom(other.jobs);
            System.arraycopy(other.settings, 0, settings, 0, SETTINGS);
            time = other.time;
            interruptions = other.interruptions;
            lostWork = other.lostWork;
        }

        void settle() {
            scale.survey(this);
            fillSlots();
        }

        private void fillSlots() {
            for (int started = 0; started < MOST_JOBS; started++) {
                int machine = freeMachine();
                if (machine == NONE) {
                    return;
                }
                int job = bestWaiting();
                if (job == NONE) {
                    return;
                }
                startJob(job, machine);
            }
        }

        private int freeMachine() {
            for (int machine = 0; machine < machines.size; machine++) {
                if (machines.isUp(machine) && scale.busy[machine] < machines.slots[machine]) {
                    return machine;
                }
            }
            return NONE;
        }

        int freeSlots() {
            scale.survey(this);
            int free = 0;
            for (int machine = 0; machine < machines.size; machine++) {
                if (machines.isUp(machine)) {
                    free += machines.slots[machine] - scale.busy[machine];
                }
            }
            return free;
        }

        int bestWaiting() {
            int best = NONE;
            long greatest = 0;
            for (int job = 0; job < jobs.size; job++) {
                if (jobs.state[job] == WAITING) {
                    long worth = scale.nextWorthOf(jobs.leaf[job]);
                    if (best == NONE || worth > greatest) {
                        best = job;
                        greatest = worth;
                    }
                }
            }
            return best;
        }

        int leastRunning(int machine) {
            int least = NONE;
            long smallest = 0;
            for (int job = 0; job < jobs.size; job++) {
                if (jobs.runsOn(job, machine)) {
                    long worth = scale.nowWorthOf(jobs.leaf[job]);
                    if (least == NONE || worth <= smallest) {
                        least = job;
                        smallest = worth;
                    }
                }
            }
            return least;
        }

        private void startJob(int job, int machine) {
            if (jobs.has(job)) {
                jobs.start(job, machine);
                scale.shift(this, jobs.leaf[job], machine, 1);
            }
        }

        private void interruptJob(int job) {
            if (!jobs.has(job)) {
                return;
            }
            int kept = keptWork(jobs.work[job]);
            interruptions++;
            lostWork += jobs.work[job] - kept;
            scale.shift(this, jobs.leaf[job], jobs.machine[job], -1);
            jobs.stop(job, kept);
        }

        private int keptWork(int work) {
            int checkpoint = settings[CHECKPOINT];
            return checkpoint > 0 ? work - work % checkpoint : work;
        }

        private void preemptJobs() {
            int heir = bestWaiting();
            for (int machine = 0; machine < machines.size && heir != NONE; machine++) {
                int runner = leastRunning(machine);
                if (runner != NONE && outweighs(heir, runner)) {
                    interruptJob(runner);
                    startJob(heir, machine);
                    heir = bestWaiting();
                }
            }
        }

        private boolean outweighs(int heir, int runner) {
            if (!jobs.has(heir) || !jobs.has(runner)) {
                return false;
            }
            long heirWorth = scale.nextWorthOf(jobs.leaf[heir]);
            long runnerWorth = scale.nowWorthOf(jobs.leaf[runner]);
            return 100 * heirWorth > (100 + settings[MARGIN]) * runnerWorth;
        }

        void switchMachine(int machine, boolean up) {
            machines.turn(machine, up);
            scale.survey(this);
            for (int job = 0; job < jobs.size && !up; job++) {
                if (jobs.runsOn(job, machine)) {
                    interruptJob(job);
                }
            }
            fillSlots();
        }

        void passTick() {
            time++;
            workOn();
            int halfLife = settings[HALF_LIFE];
            if (halfLife > 0 && time % halfLife == 0) {
                tree.halveUses();
            }
            loans.dropOver(time);
            scale.survey(this);
            fillSlots();
            preemptJobs();
        }

        private void workOn() {
            for (int job = 0; job < jobs.size; job++) {
                if (jobs.state[job] == RUNNING) {
                    jobs.work[job]++;
                    tree.addUse(jobs.leaf[job]);
                    if (jobs.work[job] >= jobs.length[job]) {
                        jobs.end(job, FINISHED, time);
                    }
                } else if (jobs.state[job] == WAITING) {
                    jobs.waited[job]++;
                }
            }
        }

        /** The leaf that so many leaves come before, or NONE. */
        int leafRanked(int rank) {
            scale.survey(this);
            for (int user = 0; user < tree.size; user++) {
                if (tree.isLeaf(user) && leavesBefore(user) == rank) {
                    return user;
                }
            }
            return NONE;
        }

        private int leavesBefore(int user) {
            int before = 0;
            long worth = scale.nextWorthOf(user);
            for (int other = 0; other < tree.size; other++) {
                long rival = scale.nextWorthOf(other);
                if (tree.isLeaf(other) && (rival > worth || rival == worth && other < user)) {
                    before++;
                }
            }
            return before;
        }
    }

    /** The places before the latest changes, in a ring. */
    private static final class History {
        int size;
        private int newest;
        private final Place[] past = new Place[MOST_CHANGES];

        History() {
            for (int i = 0; i < MOST_CHANGES; i++) {
                past[i] = new Place();
            }
        }

        void keep(Place place) {
            newest = newest + 1 < MOST_CHANGES ? newest + 1 : 0;
            past[newest].copyFrom(place);
            size = Math.min(size + 1, MOST_CHANGES);
        }

        void restore(Place place) {
            place.copyFrom(past[newest]);
            newest = newest > 0 ? newest - 1 : MOST_CHANGES - 1;
            size--;
        }
    }

    /** The text buffer and the reading of a place from it. */
    private static final class Text {
        /** Greater than every number that is in a range, and small enough to be multiplied by 10. */
        private static final int HUGE = 10000;

        int filled;
        int error;
        int errorAt = NONE;
        private final byte[] bytes = new byte[MOST_BYTES];
        private int length;
        private int at;
        private int numberAt;

        void put(int word) {
            for (int shift = 24; shift >= 0; shift -= 8) {
                if (filled < MOST_BYTES) {
                    bytes[filled] = (byte) (word >> shift);
                    filled++;
                }
            }
        }

        /** Reads a place; error is 0 afterwards if the text has none. Empties the buffer. */
        void read(int newLength, Place into) {
            length = Math.min(newLength, MOST_BYTES);
            at = 0;
            error = 0;
            errorAt = NONE;
            into.clear();
            for (int i = 0; i <= length && error == 0 && !isOver(); i++) {
                readStatement(into);
            }
            filled = 0;
        }

        private boolean isOver() {
            skipSpaces();
            return at >= length;
        }

        private void readStatement(Place into) {
            int start = at;
            skipWord();
            if (isWord("user", start)) {
                readUser(into, start);
            } else if (isWord("machine", start)) {
                readMachine(into, start);
            } else if (isWord("job", start)) {
                readJob(into, start);
            } else if (isWord("half", start)) {
                readSetting(into, HALF_LIFE);
            } else if (isWord("margin", start)) {
                readSetting(into, MARGIN);
            } else if (isWord("check", start)) {
                readSetting(into, CHECKPOINT);
            } else {
                fail(SYNTAX_ERROR, start);
            }
            readSemicolon();
        }

        private void readUser(Place into, int start) {
            if (into.tree.isFull()) {
                fail(TOO_MANY, start);
            }
            int parent = readNumber(0, into.tree.size - 1);
            if (error == 0 && into.jobs.anyOf(parent)) {
                fail(VALUE_ERROR, numberAt);
            }
            int shares = readNumber(1, MOST_SHARES);
            if (error == 0) {
                into.tree.add(parent, shares);
            }
        }

        private void readMachine(Place into, int start) {
            if (into.machines.isFull()) {
                fail(TOO_MANY, start);
            }
            int slots = readNumber(1, MOST_SLOTS);
            if (error == 0) {
                into.machines.add(slots);
            }
        }

        private void readJob(Place into, int start) {
            if (into.jobs.isFull()) {
                fail(TOO_MANY, start);
            }
            int leaf = readNumber(0, into.tree.size - 1);
            if (error == 0 && !into.tree.isLeaf(leaf)) {
                fail(VALUE_ERROR, numberAt);
            }
            int jobLength = readNumber(1, MOST_LENGTH);
            if (error == 0) {
                into.jobs.add(leaf, jobLength);
            }
        }

        private void readSetting(Place into, int what) {
            if (what < 0 || what >= SETTINGS) {
                return;
            }
            int value = readNumber(LEAST_SETTING[what], GREATEST_SETTING[what]);
            if (error == 0) {
                into.settings[what] = value;
            }
        }

        /** Reads a number and tests its range; once there is an error, nothing more is read. */
        private int readNumber(int least, int greatest) {
            if (error != 0) {
                return NONE;
            }
            skipSpaces();
            numberAt = at;
            int value = 0;
            while (at < length && isDigit(byteAt(at))) {
                value = Math.min(HUGE, value * 10 + byteAt(at) - '0');
                at++;
            }
            if (at == numberAt) {
                fail(SYNTAX_ERROR, at);
            } else if (value < least || value > greatest) {
                fail(VALUE_ERROR, numberAt);
            }
            return value;
        }

        private void readSemicolon() {
            if (error != 0) {
                return;
            }
            skipSpaces();
            if (byteAt(at) == ';') {
                at++;
            } else {
                fail(SYNTAX_ERROR, at);
            }
        }

        private void skipSpaces() {
            while (at < length && byteAt(at) == ' ') {
                at++;
            }
        }

        private void skipWord() {
            while (at < length && byteAt(at) >= 'a' && byteAt(at) <= 'z') {
                at++;
            }
        }

        /** Whether the word from start to where reading stands is this one. */
        private boolean isWord(String word, int start) {
            if (at - start != word.length()) {
                return false;
            }
            for (int i = 0; i < word.length(); i++) {
                if (byteAt(start + i) != word.charAt(i)) {
                    return false;
                }
            }
            return true;
        }

        private static boolean isDigit(int sign) {
            return sign >= '0' && sign <= '9';
        }

        /** Behind the end stands a 0, which no token begins with. */
        private int byteAt(int index) {
            return index >= 0 && index < length && index < MOST_BYTES ? bytes[index] : 0;
        }

        private void fail(int code, int position) {
            if (error == 0) {
                error = code;
                errorAt = position;
            }
        }
    }

    /** The text that was written last. */
    private static final class Note {
        /** Far more than 30 numbers of jobs with what stands between them. */
        private static final int ROOM = 128;

        int length;
        final byte[] bytes = new byte[ROOM];

        void clear() {
            length = 0;
        }

        void put(int sign) {
            if (length < ROOM) {
                bytes[length] = (byte) sign;
                length++;
            }
        }

        void putMachine(Place place, int machine) {
            if (!place.machines.isUp(machine)) {
                put('x');
                return;
            }
            int start = length;
            for (int job = 0; job < place.jobs.size; job++) {
                if (place.jobs.runsOn(job, machine)) {
                    if (length > start) {
                        put(',');
                    }
                    putNumber(job);
                }
            }
            if (length == start) {
                put('-');
            }
        }

        private void putNumber(int number) {
            if (number >= 10) {
                put('0' + number / 10);
            }
            put('0' + number % 10);
        }
    }
}
