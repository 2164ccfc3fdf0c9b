/** Sections 2 and 3 of the document's terms and promises 14 to 20: a method for each sentence that names a boundary. */
public final class MachinesBoundaryTest extends Checks {
    private static ShareTickets twoLeavesOneMachine() {
        return place("user 0 1;user 0 1;machine 1;job 1 9;job 2 9;");
    }

    private static ShareTickets twoMachines() {
        return place("machine 2;machine 1;job 0 9;job 0 9;job 0 9;job 0 9;");
    }

    private static ShareTickets thirtyJobs() {
        return place("machine 4;".repeat(6) + "job 0 9;".repeat(30));
    }

    /** The jobs 0 finished, 1 cancelled, 2 running, 3 waiting. */
    private static ShareTickets jobsInEachState() {
        ShareTickets x = place("machine 1;machine 1;job 0 1;job 0 9;job 0 9;job 0 9;");
        x.tick(1);
        x.cancel(1);
        x.setUp(1, false);
        return x;
    }

    private static void atMostSixMachines() {
        about("section 2: There are at most 6 machines, numbered from 0");
        ShareTickets x = place("machine 1;machine 2;machine 3;machine 4;machine 1;machine 2;");
        is(6, x.count(1), "machines");
        int[] slots = {1, 2, 3, 4, 1, 2};
        for (int machine = 0; machine < 6; machine++) {
            is(slots[machine], x.machine(machine, 0), "slots of machine " + machine);
            is(1, x.machine(machine, 1), "up as at first");
            is(0, x.machine(machine, 2), "running jobs");
        }
        fails(INDEX, "a 7th machine", () -> x.machine(6, 0));
        tellsError(-4, 60, "machine 1;".repeat(7));
        ShareTickets y = new ShareTickets();
        fails(INDEX, "a machine of none", () -> y.machine(0, 0));
        fails(INDEX, "setUp of a machine of none", () -> y.setUp(0, true));
    }

    private static void machinesHaveOneToFourSlots() {
        about("section 2: each with 1 to 4 slots");
        ShareTickets x = place("machine 1;machine 4;job 0 1;job 0 1;job 0 1;job 0 1;job 0 1;job 0 1;");
        shows("0 1,2,3,4", x, "one slot and four");
        is(1, x.count(8), "the sixth waits");
        is(0, x.count(10), "free slots");
        tellsError(-3, 8, "machine 0;");
        tellsError(-3, 8, "machine 5;");
    }

    private static void atMostThirtyJobs() {
        about("section 2: There are at most 30 jobs (all that were ever made), numbered from 0");
        ShareTickets x = place("machine 4;machine 4;");
        for (int job = 0; job < 30; job++) {
            is(job, x.submit(0, 1), "submit");
            if (job % 7 == 0) {
                x.tick(1);
            }
        }
        is(30, x.count(2), "jobs");
        x.tick(1);
        is(2, x.job(29, 3), "the last one is finished");
        is(0, x.count(8) + x.count(9), "all are finished");
        fails(STATE, "a 31st job when all are finished", () -> x.submit(0, 1));
        refuses(STATE, "a 31st job", MachinesBoundaryTest::thirtyJobs, y -> y.submit(0, 1));
        ShareTickets z = thirtyJobs();
        z.cancel(29);
        fails(STATE, "a 31st job when one is cancelled", () -> z.submit(0, 1));
        tellsError(-4, 240, "job 0 1;".repeat(31));
        is(30, place("job 0 1;".repeat(30)).count(8), "30 jobs that wait");
    }

    private static void jobsAreOneToSixtyLong() {
        about("section 2: a length (1 to 60)");
        ShareTickets x = place("machine 2;");
        is(0, x.submit(0, 1), "length 1");
        is(1, x.submit(0, 60), "length 60");
        is(1, x.tick(1), "the short one is finished");
        is(0, x.tick(58), "the long one is not");
        is(59, x.job(1, 2), "its work done");
        is(1, x.tick(1), "the long one is finished");
        int[] bad = {0, 61, -1, Integer.MIN_VALUE, Integer.MAX_VALUE};
        for (int length : bad) {
            refuses(ARGUMENT, "length " + length, MachinesBoundaryTest::twoLeavesOneMachine, y -> y.submit(1, length));
        }
    }

    private static void settingsHaveRanges() {
        about("section 2: the half-life (1 to 50), the margin (0 to 400), and the checkpoint (1 to 20); promise 20");
        ShareTickets x = new ShareTickets();
        int[][] allowed = {{0, 1, 10}, {0, 50, 1}, {0, 50, 50}, {1, 0, 50}, {1, 400, 0}, {1, 399, 400}, {2, 1, 5}, {2, 20, 1}};
        for (int[] a : allowed) {
            is(a[2], x.set(a[0], a[1]), "set " + a[0] + " to " + a[1]);
            is(a[1], x.count(5 + a[0]), "setting " + a[0]);
        }
        int[][] bad = {{0, 0}, {0, 51}, {0, -1}, {1, -1}, {1, 401}, {2, 0}, {2, 21}, {2, -5}, {-1, 5}, {3, 5},
            {Integer.MIN_VALUE, 5}, {Integer.MAX_VALUE, 5}, {0, Integer.MAX_VALUE}, {1, Integer.MIN_VALUE}, {2, Integer.MAX_VALUE}};
        for (int[] b : bad) {
            refuses(ARGUMENT, "set " + b[0] + " to " + b[1], MachinesBoundaryTest::twoLeavesOneMachine, y -> y.set(b[0], b[1]));
        }
    }

    private static void workIsCutToWholeCheckpoints() {
        about("section 2: its work done becomes the greatest multiple of the checkpoint that is not greater than it");
        int[][] cases = {{5, 0, 0}, {5, 4, 0}, {5, 5, 5}, {5, 6, 5}, {5, 9, 5}, {5, 10, 10}, {1, 7, 7}, {20, 19, 0}, {20, 20, 20},
            {20, 39, 20}, {3, 59, 57}};
        for (int[] c : cases) {
            ShareTickets x = place("machine 1;job 0 60;");
            x.set(2, c[0]);
            if (c[1] > 0) {
                x.tick(c[1]);
            }
            is(1, x.setUp(0, false), "interrupted");
            is(c[2], x.job(0, 2), "work kept of " + c[1] + " with the checkpoint " + c[0]);
            is(c[1] - c[2], x.count(12), "work lost");
            is(0, x.job(0, 3), "state");
            is(-1, x.job(0, 4), "machine");
            is(0, x.job(0, 6), "ticks waited");
            is(0, x.user(0, 6), "load");
            is(1, x.user(0, 7), "waiting jobs");
        }
    }

    private static void theCheckpointOfTheMomentCounts() {
        about("section 2: there are three settings .. the checkpoint");
        ShareTickets x = place("machine 1;check 20;job 0 60;");
        x.tick(13);
        x.set(2, 6);
        x.setUp(0, false);
        is(12, x.job(0, 2), "the checkpoint when it is interrupted");
        x.setUp(0, true);
        x.tick(1);
        is(13, x.job(0, 2), "it goes on from what was kept");
        x.set(2, 13);
        x.setUp(0, false);
        is(13, x.job(0, 2), "work of before and after");
        is(1, x.count(12), "work lost in all");
        is(2, x.count(11), "interruptions in all");
    }

    private static void fillingNeedsASlotAndAJob() {
        about("section 3: as long as there is a free slot of a machine that is up and a waiting job");
        ShareTickets x = new ShareTickets();
        x.submit(0, 5);
        is(0, x.job(0, 3), "no machine");
        x = place("machine 1;machine 2;");
        is(3, x.count(10), "no job");
        x.setUp(0, false);
        x.setUp(1, false);
        x.submit(0, 5);
        is(0, x.job(0, 3), "no machine is up");
        x.submit(0, 5);
        x.submit(0, 5);
        x.submit(0, 5);
        x.setUp(1, true);
        shows("x 0,1", x, "two slots for four jobs");
        x.setUp(0, true);
        shows("2 0,1", x, "one slot more");
        is(3, x.first(), "the one that waits");
    }

    private static void theGreatestWorthGoesFirst() {
        about("section 3: the waiting job with the greatest worth (of several the one with the lowest number)");
        ShareTickets x = place("user 0 1;user 0 1;user 0 1;job 3 9;job 2 9;job 1 9;job 1 9;machine 1;");
        shows("0", x, "the lowest number of equal ones, not the lowest leaf");
        x = place("user 0 1;user 0 2;job 1 9;job 2 9;job 2 9;job 2 9;machine 4;");
        shows("0,1,2,3", x, "all run");
        x = place("user 0 1;user 0 2;job 1 9;job 2 9;job 2 9;job 2 9;machine 3;");
        // 666666 first; then 333333 of both leaves, so the lowest number; then 333333 of user 2.
        shows("0,1,2", x, "worths change with each job that begins to run");
        x = place("user 0 1;user 0 2;job 1 9;job 2 9;job 2 9;job 2 9;machine 2;");
        shows("0,1", x, "of two slots the second one goes to the lowest of equal ones");
        x = place("user 0 1;user 0 3;job 1 9;job 2 9;job 2 9;job 2 9;machine 2;");
        shows("1,2", x, "750000, then 375000 against 250000");
    }

    private static void theLowestMachineIsFilledFirst() {
        about("section 3: runs on the lowest machine that is up and has a free slot");
        ShareTickets x = place("machine 1;machine 2;machine 1;");
        x.setUp(0, false);
        x.submit(0, 1);
        x.submit(0, 9);
        x.submit(0, 9);
        shows("x 0,1 2", x, "the down one is passed over");
        x.tick(1);
        shows("x 1 2", x, "one is finished");
        x.setUp(0, true);
        x.submit(0, 9);
        shows("3 1 2", x, "the one that is up again is the lowest");
        x.submit(0, 9);
        shows("3 1,4 2", x, "the full one is passed over");
    }

    private static void preemptionNeedsMoreThanTheMargin() {
        about("section 3: 100 times the worth of w is greater than (100 plus the margin) times the worth of r");
        ShareTickets x = place("user 0 2;user 0 1;machine 1;margin 0;job 1 60;job 2 60;");
        x.tick(1);
        // 666666000 / 2000 = 333333 runs, 333333 waits.
        shows("0", x, "equal worths with a margin of 0");
        x.undo();
        x.lend(1, 2, 1, 9);
        x.tick(1);
        shows("1", x, "333332 against 333334 with a margin of 0");
        ShareTickets y = place("user 0 1;user 0 1;machine 1;margin 400;half 50;job 1 60;job 2 60;");
        y.tick(4);
        shows("0", y, "five times as much with a margin of 400");
        y.tick(1);
        shows("1", y, "six times as much with a margin of 400");
        ShareTickets z = place("user 0 1;user 0 1;machine 1;margin 100;job 1 60;job 2 60;");
        z.lend(1, 2, 1, 9);
        z.set(1, 99);
        z.undo();
        z.undo();
        z.tick(1);
        shows("0", z, "twice as much with a margin of 100");
        z.undo();
        z.lend(1, 2, 1, 9);
        z.tick(1);
        // 499999000 / 2000 = 249999 runs, 500001 waits.
        shows("1", z, "500001 against 249999 with a margin of 100");
    }

    private static void aWorthOfNothingIsPreemptedByAny() {
        about("section 3: greater than .. times the worth of r, when that is 0");
        ShareTickets x = place("user 0 1;user 0 1;machine 1;margin 400;job 1 60;");
        x.submit(2, 60);
        x.lend(1, 2, 500000, 1);
        x.tick(1);
        shows("0", x, "it is paid back: the waiting one is worth nothing");
        x = place("user 0 1;user 0 1;machine 1;margin 400;job 1 60;");
        x.submit(2, 60);
        x.lend(1, 2, 500000, 2);
        x.tick(1);
        shows("1", x, "the running one is worth nothing");
        x = place("user 0 99;user 0 1;user 2 99;user 2 1;user 4 99;user 4 1;user 6 1;user 6 1;machine 1;margin 0;job 7 60;");
        x.submit(8, 60);
        is(0, x.worth(7, 1), "worth");
        x.tick(5);
        shows("0", x, "nothing is not more than nothing");
    }

    private static void eachMachinePreemptsOne() {
        about("section 3: Each machine preempts at most one job in this way");
        ShareTickets x = place("user 0 1;user 0 99;machine 2;machine 2;margin 0;job 1 60;job 1 60;job 1 60;job 1 60;");
        for (int i = 0; i < 4; i++) {
            x.submit(2, 60);
        }
        x.tick(1);
        shows("0,4 2,5", x, "one on each machine");
        is(2, x.count(11), "interruptions");
        x.tick(1);
        shows("4,6 5,7", x, "the next one on each machine");
        is(4, x.count(11), "interruptions");
    }

    private static void interruptedJobsCompeteOnLaterMachines() {
        about("section 3: with jobs that were interrupted on machines before it");
        ShareTickets x = place("user 0 1;user 0 10;user 0 99;machine 1;machine 1;margin 0;job 2 60;job 1 60;");
        x.submit(3, 60);
        shows("0 1", x, "at first");
        x.tick(1);
        // 900000 of user 3 takes machine 0 from 45454 of user 2, which takes machine 1 from 4545 of user 1.
        shows("2 0", x, "the interrupted one runs on the next machine at once");
        is(2, x.count(11), "interruptions");
        is(2, x.count(12), "work lost");
        is(0, x.job(0, 2), "its work is cut all the same");
        is(1, x.first(), "the one that waits");
    }

    private static void interruptedJobsAreNoLoadAnyMore() {
        about("section 3: (worths and waiting jobs are those when its turn comes ..)");
        ShareTickets x = place("user 0 2;user 0 1;machine 1;machine 1;margin 0;job 1 60;job 1 60;job 2 60;job 2 60;");
        shows("0 1", x, "at first");
        x.tick(1);
        // Machine 0: 333333 for 666666 / 3 / 2. Machine 1: 333333 / 2 against 666666 / 3 / 1.
        shows("2 1", x, "the other job of the same leaf is worth more then");
        ShareTickets y = place("user 0 3;user 0 2;machine 2;machine 2;job 1 60;job 1 60;job 2 60;");
        shows("0,2 1", y, "at first");
        y.setUp(0, false);
        // 600000 / 2 against 400000 / 1.
        shows("x 1,2", y, "what was interrupted by setUp is no load, either");
    }

    private static void worthsAreThoseOfTheMoment() {
        about("section 3: the waiting job with the greatest worth, behind changes that fill nothing");
        Recipe down = () -> {
            ShareTickets x = place("user 0 1;user 0 1;machine 1;");
            x.setUp(0, false);
            x.submit(1, 9);
            x.submit(2, 9);
            return x;
        };
        ShareTickets x = down.make();
        x.setUp(0, true);
        shows("0", x, "equal worths");
        x = down.make();
        x.lend(1, 2, 1, 9);
        x.setUp(0, true);
        shows("1", x, "behind lend");
        x = down.make();
        x.setShares(2, 2);
        x.setUp(0, true);
        shows("1", x, "behind setShares");
        x = down.make();
        x.lend(1, 2, 1, 9);
        is(1, x.first(), "behind lend");
        x.undo();
        x.setUp(0, true);
        shows("0", x, "behind undo of lend");
    }

    private static void machinesTakeTheirTurns() {
        about("section 3: the machines that are up are gone through in their order");
        ShareTickets x = place("user 0 1;user 0 10;user 0 99;machine 1;machine 1;margin 0;job 2 60;job 1 60;job 3 60;");
        shows("2 0", x, "at first the greatest run");
        x.cancel(2);
        x.cancel(0);
        shows("1 -", x, "the least one alone");
        x.submit(2, 60);
        x.submit(3, 60);
        x.submit(3, 60);
        shows("1 3", x, "the least one and the middle one");
        x.tick(1);
        // Machine 0: 900000 for 4545. Machine 1: 450000 for 45454.
        shows("4 5", x, "the lowest machine has the first choice");
        is(3, x.first(), "the middle one comes next");
        is(2, x.count(11), "interruptions");
    }

    private static void ofSeveralTheHighestIsInterrupted() {
        about("section 3: its running job with the least worth (of several the one with the highest number)");
        ShareTickets x = place("user 0 1;user 0 1;user 0 98;machine 4;margin 0;job 2 60;job 1 60;job 2 60;job 1 60;");
        x.submit(3, 60);
        is(3, x.machine(0, 3), "the highest of four equal ones");
        x.tick(1);
        shows("0,1,2,4", x, "it was interrupted");
        x = place("user 0 2;user 0 1;machine 4;job 2 60;job 1 60;job 1 60;job 1 60;");
        // 333333 of user 2, 666666 / 3 of user 1.
        is(3, x.machine(0, 3), "the highest of the three with the least");
        x.cancel(3);
        is(2, x.machine(0, 3), "333333 of both: the highest of three");
        x.cancel(2);
        is(0, x.machine(0, 3), "the one with the least, though it has the lowest number");
    }

    private static void ofSeveralTheLowestRunsInItsPlace() {
        about("section 3: the waiting job with the greatest worth (of several the one with the lowest number)");
        ShareTickets x = place("user 0 1;user 0 50;user 0 50;machine 1;margin 0;job 1 60;");
        x.submit(3, 60);
        x.submit(2, 60);
        x.tick(1);
        shows("1", x, "the lowest of two equal ones");
    }

    private static void onlyTickPreempts() {
        about("section 5: submit, cancel and setUp also fill slots at the end");
        ShareTickets x = place("user 0 1;user 0 99;machine 1;machine 1;margin 0;job 1 60;job 1 60;");
        x.submit(2, 60);
        shows("0 1", x, "submit does not preempt");
        x.submit(2, 60);
        x.set(1, 0);
        x.lend(1, 2, 9999, 50);
        x.setShares(1, 1);
        x.cancel(3);
        x.addUser(0, 1);
        shows("0 1", x, "nor do cancel of one that waits, set, lend, setShares and addUser");
        x.setUp(1, true);
        shows("0 1", x, "nor does setUp");
        x.tick(1);
        shows("2 1", x, "tick does");
    }

    private static void machineKnowsNullToThree() {
        about("promise 14: for any other what; if the machine does not exist");
        int[] bad = {-1, 4, Integer.MIN_VALUE, Integer.MAX_VALUE};
        for (int what : bad) {
            refuses(ARGUMENT, "machine 1 " + what, MachinesBoundaryTest::twoMachines, y -> y.machine(1, what));
        }
        int[] none = {-1, 2, Integer.MIN_VALUE, Integer.MAX_VALUE};
        for (int machine : none) {
            refuses(INDEX, "machine " + machine, MachinesBoundaryTest::twoMachines, y -> y.machine(machine, 0));
            refuses(INDEX, "machine and what", MachinesBoundaryTest::twoMachines, y -> y.machine(machine, 4));
        }
        ShareTickets x = twoMachines();
        int[] last = {1, 1, 1, 2};
        for (int what = 0; what <= 3; what++) {
            is(last[what], x.machine(1, what), "the last machine " + what);
        }
        x.setUp(1, false);
        int[] down = {1, 0, 0, -1};
        for (int what = 0; what <= 3; what++) {
            is(down[what], x.machine(1, what), "a machine that is down " + what);
        }
    }

    private static void jobKnowsNullToSix() {
        about("promise 15: for any other what; if the job does not exist");
        int[] bad = {-1, 7, Integer.MIN_VALUE, Integer.MAX_VALUE};
        for (int what : bad) {
            refuses(ARGUMENT, "job 3 " + what, MachinesBoundaryTest::twoMachines, y -> y.job(3, what));
        }
        int[] none = {-1, 4, Integer.MIN_VALUE, Integer.MAX_VALUE};
        for (int job : none) {
            refuses(INDEX, "job " + job, MachinesBoundaryTest::twoMachines, y -> y.job(job, 0));
            refuses(INDEX, "job and what", MachinesBoundaryTest::twoMachines, y -> y.job(job, 7));
        }
        refuses(INDEX, "job 0 of none", ShareTickets::new, y -> y.job(0, 0));
        ShareTickets x = thirtyJobs();
        is(9, x.job(29, 1), "the 30th job");
        fails(INDEX, "a 31st job", () -> x.job(30, 1));
        int[][] due = {{0, 1, 1, 2, -1, 1, 0}, {0, 9, 1, 3, -1, 1, 0}, {0, 9, 0, 1, 0, -1, 1}, {0, 9, 0, 0, -1, -1, 1}};
        ShareTickets y = jobsInEachState();
        for (int job = 0; job < 4; job++) {
            for (int what = 0; what <= 6; what++) {
                is(due[job][what], y.job(job, what), "job " + job + " " + what);
            }
        }
    }

    private static void endedAtTimeNullIsATime() {
        about("promise 15: 5: the time at which it was finished or cancelled (NONE otherwise)");
        ShareTickets x = place("job 0 9;");
        is(-1, x.job(0, 5), "a waiting one");
        x.cancel(0);
        is(0, x.job(0, 5), "cancelled at the time 0");
    }

    private static void firstNeedsAWaitingJob() {
        about("promise 16: if no job is waiting");
        refuses(NO_SUCH, "first of no jobs", ShareTickets::new, y -> y.first());
        refuses(NO_SUCH, "first of running ones", () -> place("machine 2;job 0 1;job 0 1;"), y -> y.first());
        refuses(NO_SUCH, "first of ended ones", () -> {
            ShareTickets x = place("machine 1;job 0 1;job 0 5;");
            x.cancel(1);
            x.tick(1);
            return x;
        }, y -> y.first());
        is(3, jobsInEachState().first(), "the only one that waits");
        is(0, place("job 0 1;".repeat(30)).first(), "the lowest of 30");
        is(29, place("user 0 1;user 0 2;" + "job 1 1;".repeat(29) + "job 2 1;").first(), "the greatest worth");
    }

    private static void submitNeedsALeaf() {
        about("promise 17: its Throws in their order");
        int[] none = {-1, 3, Integer.MIN_VALUE, Integer.MAX_VALUE};
        for (int user : none) {
            refuses(INDEX, "user " + user, MachinesBoundaryTest::twoLeavesOneMachine, y -> y.submit(user, 1));
            refuses(INDEX, "user and length", MachinesBoundaryTest::twoLeavesOneMachine, y -> y.submit(user, 61));
        }
        refuses(STATE, "no leaf", MachinesBoundaryTest::twoLeavesOneMachine, y -> y.submit(0, 60));
        refuses(ARGUMENT, "length, and no leaf", MachinesBoundaryTest::twoLeavesOneMachine, y -> y.submit(0, 0));
        refuses(ARGUMENT, "length of a 31st job", MachinesBoundaryTest::thirtyJobs, y -> y.submit(0, 61));
        refuses(INDEX, "user of a 31st job", MachinesBoundaryTest::thirtyJobs, y -> y.submit(1, 1));
        is(2, twoLeavesOneMachine().submit(1, 1), "the first leaf");
        is(2, twoLeavesOneMachine().submit(2, 60), "the last leaf");
    }

    private static void cancelNeedsAJobThatIsOpen() {
        about("promise 18: if it is finished or cancelled already; if the job does not exist");
        int[] none = {-1, 4, Integer.MIN_VALUE, Integer.MAX_VALUE};
        for (int job : none) {
            refuses(INDEX, "job " + job, MachinesBoundaryTest::jobsInEachState, y -> y.cancel(job));
        }
        refuses(INDEX, "a job of none", ShareTickets::new, y -> y.cancel(0));
        refuses(STATE, "finished already", MachinesBoundaryTest::jobsInEachState, y -> y.cancel(0));
        refuses(STATE, "cancelled already", MachinesBoundaryTest::jobsInEachState, y -> y.cancel(1));
        ShareTickets x = jobsInEachState();
        is(0, x.cancel(3), "a waiting one");
        is(0, x.cancel(2), "a running one");
        shows("- x", x, "none is left");
    }

    private static void cancelKeepsTheWorkDone() {
        about("promise 18: a running one is not interrupted by this, its work done stays as it is");
        ShareTickets x = place("machine 1;check 5;job 0 60;job 0 60;");
        x.tick(7);
        is(7, x.cancel(0), "work done of a running one");
        is(7, x.job(0, 2), "its work done stays");
        is(0, x.count(11), "interruptions");
        is(0, x.count(12), "work lost");
        is(7000, x.user(0, 5), "the use stays");
        shows("1", x, "slots are filled");
        x.tick(6);
        x.setUp(0, false);
        is(5, x.cancel(1), "work done of one that was interrupted");
        is(13, x.job(1, 5), "the time at which it was cancelled");
        is(7, x.job(0, 5), "the time of the other one stays");
    }

    private static void setUpInterruptsAllThatRunThere() {
        about("promise 19: Takes a machine down (its running jobs are interrupted) or brings it up; then slots are filled");
        ShareTickets x = place("machine 4;machine 1;check 2;" + "job 0 60;".repeat(5));
        x.tick(3);
        is(4, x.setUp(0, false), "four");
        is(4, x.count(11), "interruptions");
        is(4, x.count(12), "work lost");
        shows("x 4", x, "one is down");
        is(0, x.setUp(0, false), "down already");
        is(4, x.count(11), "interruptions");
        is(1, x.setUp(1, false), "one");
        shows("x x", x, "both are down");
        is(0, x.setUp(1, true), "up again");
        shows("x 0", x, "the lowest number runs");
        is(0, x.setUp(1, true), "up already");
        shows("x 0", x, "nothing is interrupted");
        is(0, x.setUp(0, true), "up again");
        shows("1,2,3,4 0", x, "all run");
        is(0, new ShareTickets().count(10), "no machine");
        ShareTickets y = place("machine 4;");
        is(0, y.setUp(0, false), "none");
        is(0, y.count(10), "free slots");
    }

    private static void setUpNeedsAMachine() {
        about("promise 19: if the machine does not exist");
        int[] none = {-1, 2, Integer.MIN_VALUE, Integer.MAX_VALUE};
        for (int machine : none) {
            refuses(INDEX, "down " + machine, MachinesBoundaryTest::twoMachines, y -> y.setUp(machine, false));
            refuses(INDEX, "up " + machine, MachinesBoundaryTest::twoMachines, y -> y.setUp(machine, true));
        }
        ShareTickets x = thirtyJobs();
        is(4, x.setUp(5, false), "the last of six");
        fails(INDEX, "a seventh", () -> x.setUp(6, false));
        is(4, x.setUp(0, false), "the first of six");
    }

    private static void interruptedJobsRunElsewhereAtOnce() {
        about("promise 19: then slots are filled");
        ShareTickets x = place("machine 1;machine 1;machine 2;check 5;job 0 60;job 0 60;");
        x.tick(6);
        is(1, x.setUp(0, false), "interrupted");
        shows("x 1 0", x, "it runs on the lowest machine with a free slot");
        is(5, x.job(0, 2), "its work");
        is(1, x.count(12), "work lost");
        is(0, x.job(0, 6), "it has not waited");
        is(1, x.setUp(1, false), "interrupted");
        shows("x x 0,1", x, "the other one, too");
    }

    public static void main(String[] args) {
        atMostSixMachines();
        machinesHaveOneToFourSlots();
        atMostThirtyJobs();
        jobsAreOneToSixtyLong();
        settingsHaveRanges();
        workIsCutToWholeCheckpoints();
        theCheckpointOfTheMomentCounts();
        fillingNeedsASlotAndAJob();
        theGreatestWorthGoesFirst();
        theLowestMachineIsFilledFirst();
        preemptionNeedsMoreThanTheMargin();
        aWorthOfNothingIsPreemptedByAny();
        eachMachinePreemptsOne();
        interruptedJobsCompeteOnLaterMachines();
        interruptedJobsAreNoLoadAnyMore();
        worthsAreThoseOfTheMoment();
        machinesTakeTheirTurns();
        ofSeveralTheHighestIsInterrupted();
        ofSeveralTheLowestRunsInItsPlace();
        onlyTickPreempts();
        machineKnowsNullToThree();
        jobKnowsNullToSix();
        endedAtTimeNullIsATime();
        firstNeedsAWaitingJob();
        submitNeedsALeaf();
        cancelNeedsAJobThatIsOpen();
        cancelKeepsTheWorkDone();
        setUpInterruptsAllThatRunThere();
        setUpNeedsAMachine();
        interruptedJobsRunElsewhereAtOnce();
        end("sections 2 and 3 and promises 14 to 20 hold at their boundaries");
    }
}
