/** Section 4 of the document's terms and promises 21 to 26: a method for each sentence that names a boundary. */
public final class TimeBoundaryTest extends Checks {
    private static ShareTickets busy() {
        ShareTickets x = place("user 0 1;user 0 2;machine 1;machine 1;margin 0;job 1 9;job 2 2;job 2 60;job 1 5;");
        x.tick(3);
        return x;
    }

    private static ShareTickets twoLeaves() {
        return place("user 0 1;user 0 1;");
    }

    private static ShareTickets atTheEnd() {
        ShareTickets x = place("machine 1;half 50;");
        for (int i = 0; i < 166; i++) {
            x.tick(60);
        }
        x.tick(39);
        return x;
    }

    private static void theTimeIsOneGreaterFirst() {
        about("section 4: The time (0 at first) becomes 1 greater; then ..");
        ShareTickets x = place("machine 1;half 2;job 0 1;job 0 9;");
        is(0, x.count(4), "time");
        x.tick(1);
        is(1, x.count(4), "time");
        is(1, x.job(0, 5), "a job is finished at the new time");
        is(1000, x.user(0, 5), "the half-life divides the new time: not 1");
        x.tick(1);
        is(1000, x.user(0, 5), "but 2");
        x.tick(1);
        is(2000, x.user(0, 5), "not 3");
    }

    private static void workIsDoneAndUseGrows() {
        about("section 4, 1: 1 more of work done, and the use of its leaf becomes 1000 greater");
        ShareTickets x = place("user 0 1;user 0 1;machine 4;half 50;job 1 9;job 1 9;job 2 9;");
        x.tick(1);
        is(1, x.job(1, 2), "work done");
        is(2000, x.user(1, 5), "use of a leaf with two jobs");
        is(1000, x.user(2, 5), "use of a leaf with one job");
        x.tick(7);
        is(3, x.count(9), "none is finished one tick before its length");
        is(3, x.tick(1), "all are finished");
        is(9, x.job(2, 2), "work done");
        x.tick(1);
        is(18000, x.user(1, 5), "use when nothing runs");
        is(9, x.job(2, 2), "work done when it is finished");
    }

    private static void waitingJobsWaitOneTickMore() {
        about("section 4, 1: Each job that is waiting has waited 1 tick more");
        ShareTickets x = place("user 0 1;user 0 99;machine 1;margin 0;job 1 60;job 1 60;");
        x.submit(2, 2);
        x.tick(1);
        shows("2", x, "preempted");
        is(1, x.job(2, 6), "it has waited in the tick at whose end it runs");
        is(0, x.job(2, 2), "and has not worked in it");
        is(0, x.job(0, 6), "the other one has not waited in the tick at whose end it is interrupted");
        is(1, x.job(1, 6), "one that waits on");
        x.tick(2);
        is(2, x.job(0, 6), "the interrupted one has waited since");
        is(1, x.job(2, 6), "the finished one has not");
        is(3, x.job(1, 6), "one that waits on");
        x.cancel(1);
        x.tick(1);
        is(3, x.job(1, 6), "a cancelled one waits no more");
    }

    private static void usesAreHalvedRoundedDown() {
        about("section 4, 2: If the half-life divides the time, the use of each leaf is halved, rounded down");
        ShareTickets x = place("user 0 1;user 0 1;machine 2;half 1;job 1 60;job 2 3;");
        int[] due = {500, 750, 875, 937, 968, 984};
        int[] ofTheOther = {500, 750, 875, 437, 218, 109};
        for (int tick = 0; tick < due.length; tick++) {
            x.tick(1);
            is(due[tick], x.user(1, 5), "use after tick " + tick);
            is(ofTheOther[tick], x.user(2, 5), "use of the other leaf after tick " + tick);
        }
        x.tick(6);
        is(1, x.user(2, 5), "use");
        x.tick(1);
        is(0, x.user(2, 5), "the half of 1");
        x.tick(1);
        is(0, x.user(2, 5), "the half of 0");
    }

    private static void theHalfLifeIsOneToFifty() {
        about("section 4, 2: If the half-life divides the time");
        ShareTickets x = place("machine 1;half 50;job 0 60;job 0 60;");
        x.tick(49);
        is(49000, x.user(0, 5), "use at 49");
        x.tick(1);
        is(25000, x.user(0, 5), "use at 50");
        x.tick(50);
        is(37500, x.user(0, 5), "use at 100");
        x.set(0, 7);
        x.tick(4);
        is(41500, x.user(0, 5), "use at 104");
        x.tick(1);
        is(21250, x.user(0, 5), "use at 105, which a new half-life of 7 divides");
        ShareTickets y = place("machine 1;job 0 60;");
        y.tick(9);
        is(9000, y.user(0, 5), "use at 9 with the first half-life");
        y.tick(1);
        is(5000, y.user(0, 5), "use at 10 with the first half-life");
    }

    private static void halvedUsesCountForFilling() {
        about("section 4: then, in this order: 2. .. halved .. 4. Slots are filled");
        ShareTickets x = place("user 0 3;user 0 1;machine 1;half 3;margin 400;job 1 3;job 1 9;job 2 9;");
        x.tick(3);
        // 750000 / 4 would be less than 250000, 750000 / 2.5 is more.
        shows("1", x, "the worth after the use was halved");
        ShareTickets y = place("user 0 3;user 0 1;machine 1;half 4;margin 400;job 1 3;job 1 9;job 2 9;");
        y.tick(3);
        shows("2", y, "the worth of a use that is not halved");
    }

    private static void loansAreGoneBeforeFilling() {
        about("section 4: then, in this order: 3. Loans that are over are gone. 4. Slots are filled");
        ShareTickets x = place("user 0 1;user 0 1;user 0 1;machine 1;margin 400;job 3 2;job 1 9;job 2 9;");
        x.lend(2, 1, 1000, 1);
        x.tick(1);
        is(2, x.first(), "while it is paid back the lender is worth more");
        x.tick(1);
        shows("1", x, "when it is gone both are worth the same");
        is(0, x.count(3), "loans");
        ShareTickets y = place("user 0 1;user 0 1;user 0 1;machine 1;margin 400;job 3 2;job 1 9;job 2 9;");
        y.lend(1, 2, 1000, 2);
        is(2, y.first(), "while it is lent the borrower is worth more");
        y.tick(2);
        shows("1", y, "from the tick on in which it begins to be paid back the lender is");
    }

    private static void slotsAreFilledBeforePreemption() {
        about("section 4: then, in this order: 4. Slots are filled. 5. Jobs are preempted");
        ShareTickets x = place("user 0 1;user 0 99;machine 2;margin 0;job 1 1;job 1 9;");
        x.submit(2, 9);
        x.tick(1);
        shows("1,2", x, "it runs in the free slot");
        is(0, x.count(11), "nothing was interrupted");
    }

    private static void finishedJobsAreNotPreempted() {
        about("section 4: then, in this order: 1. .. finished then; its slot is free .. 5. Jobs are preempted");
        ShareTickets x = place("user 0 1;user 0 99;machine 1;margin 0;check 20;job 1 2;");
        x.set(1, 400);
        x.tick(1);
        x.set(1, 0);
        x.submit(2, 9);
        is(1, x.tick(1), "finished in the tick in which it could be interrupted");
        shows("1", x, "the next one");
        is(0, x.count(11), "interruptions");
    }

    private static void ticksAreOneToSixty() {
        about("promise 21: 1 to 60; if ticks is out of range");
        int[] bad = {0, 61, -1, Integer.MIN_VALUE, Integer.MAX_VALUE};
        for (int ticks : bad) {
            refuses(ARGUMENT, "tick " + ticks, TimeBoundaryTest::busy, y -> y.tick(ticks));
        }
        ShareTickets x = place("machine 1;job 0 60;job 0 60;");
        is(0, x.tick(1), "1");
        is(1, x.tick(60), "60");
        is(61, x.count(4), "time");
        is(1, x.job(1, 2), "work of the next one");
    }

    private static void manyTicksAreAsManySingleOnes() {
        about("promise 21: Lets ticks pass. This is one change");
        ShareTickets x = busy();
        ShareTickets y = busy();
        int finished = x.tick(60);
        int sum = 0;
        for (int i = 0; i < 60; i++) {
            sum += y.tick(1);
        }
        is(sum, finished, "finished jobs");
        for (int what = 0; what <= 12; what++) {
            is(y.count(what), x.count(what), "count " + what);
        }
        for (int job = 0; job < 4; job++) {
            for (int what = 0; what <= 6; what++) {
                is(y.job(job, what), x.job(job, what), "job " + job + " " + what);
            }
        }
        is(2, x.undo(), "undo of 60 ticks");
        is(3, x.count(4), "time");
        is(7, y.undo(), "undo of one tick");
        is(62, y.count(4), "time");
    }

    private static void theTimeEnds() {
        about("promise 21: if the time would exceed 9999");
        ShareTickets x = atTheEnd();
        is(9999, x.count(4), "time");
        refuses(STATE, "one tick more", TimeBoundaryTest::atTheEnd, y -> y.tick(1));
        refuses(STATE, "60 ticks more", TimeBoundaryTest::atTheEnd, y -> y.tick(60));
        refuses(ARGUMENT, "0 ticks more", TimeBoundaryTest::atTheEnd, y -> y.tick(0));
        refuses(ARGUMENT, "61 ticks more", TimeBoundaryTest::atTheEnd, y -> y.tick(61));
        is(7, x.undo(), "undo");
        is(9960, x.count(4), "time");
        fails(STATE, "40 ticks from 9960", () -> x.tick(40));
        is(0, x.tick(39), "39 ticks from 9960");
    }

    private static void inThoughtTheTimeGoesOn() {
        about("promise 22: the time may exceed 9999 in thought; promise 23: likewise");
        ShareTickets x = atTheEnd();
        for (int job = 0; job < 7; job++) {
            x.submit(0, 60);
        }
        is(60, x.finishedIn(0), "the first one");
        is(360, x.finishedIn(5), "the sixth one");
        is(-1, x.finishedIn(6), "the seventh one");
        is(1, x.ahead(100, 0), "finished jobs");
        is(5, x.ahead(100, 1), "waiting jobs");
        is(9999, x.count(4), "time");
        fails(STATE, "tick", () -> x.tick(1));
    }

    private static void finishedInIsOneToFourHundred() {
        about("promise 22: Returns the ticks, 1 to 400; NONE if it would not be finished within them");
        ShareTickets x = place("machine 1;" + "job 0 60;".repeat(6) + "job 0 40;job 0 1;");
        is(60, x.finishedIn(0), "the first one");
        is(400, x.finishedIn(6), "after 400 ticks");
        is(-1, x.finishedIn(7), "after 401 ticks");
        x.tick(1);
        is(399, x.finishedIn(6), "after 400 ticks, one of which is over");
        is(400, x.finishedIn(7), "after 401 ticks, one of which is over");
        x.tick(58);
        is(1, x.finishedIn(0), "one tick is left");
        is(1, place("machine 1;job 0 1;").finishedIn(0), "length 1");
        is(-1, place("job 0 1;").finishedIn(0), "no machine");
        ShareTickets y = place("machine 1;job 0 1;");
        y.setUp(0, false);
        is(-1, y.finishedIn(0), "no machine that is up");
    }

    private static void finishedInNeedsAJobThatIsOpen() {
        about("promise 22: if the job does not exist; if it is finished or cancelled");
        Recipe ended = () -> {
            ShareTickets x = place("machine 1;job 0 1;job 0 9;job 0 9;job 0 9;");
            x.tick(1);
            x.cancel(2);
            return x;
        };
        int[] none = {-1, 4, Integer.MIN_VALUE, Integer.MAX_VALUE};
        for (int job : none) {
            refuses(INDEX, "job " + job, ended, y -> y.finishedIn(job));
        }
        refuses(INDEX, "a job of none", ShareTickets::new, y -> y.finishedIn(0));
        refuses(STATE, "finished", ended, y -> y.finishedIn(0));
        refuses(STATE, "cancelled", ended, y -> y.finishedIn(2));
        is(9, ended.make().finishedIn(1), "a running one");
        is(18, ended.make().finishedIn(3), "a waiting one");
    }

    private static void predictionsCountPreemptionsAndLoans() {
        about("promise 22: if nothing but time happened");
        String text = "user 0 1;user 0 1;machine 1;margin 0;check 1;half 50;job 1 4;job 2 4;job 1 4;";
        ShareTickets x = place(text);
        x.lend(1, 2, 300000, 2);
        int[] in = {x.finishedIn(0), x.finishedIn(1), x.finishedIn(2)};
        int[] interrupted = new int[13];
        for (int ticks = 1; ticks <= 12; ticks++) {
            interrupted[ticks] = x.ahead(ticks, 2);
        }
        is(1, interrupted[12] > 2 ? 1 : 0, "several are interrupted");
        changesNothing("finishedIn", () -> place(text), y -> y.finishedIn(1));
        changesNothing("ahead", () -> place(text), y -> y.ahead(100, 2));
        is(12, Math.max(in[0], Math.max(in[1], in[2])), "the last one of 12 ticks of work");
        for (int ticks = 1; ticks <= 12; ticks++) {
            x.tick(1);
            is(interrupted[ticks], x.count(11), "interruptions at " + ticks);
        }
        for (int job = 0; job < 3; job++) {
            is(in[job], x.job(job, 5), "the time at which job " + job + " was finished");
        }
    }

    private static void aheadIsOneToHundred() {
        about("promise 23: 1 to 100; if ticks or what is out of range");
        int[] bad = {0, 101, -1, Integer.MIN_VALUE, Integer.MAX_VALUE};
        for (int ticks : bad) {
            refuses(ARGUMENT, "ahead " + ticks, TimeBoundaryTest::busy, y -> y.ahead(ticks, 0));
        }
        int[] badWhat = {-1, 4, Integer.MIN_VALUE, Integer.MAX_VALUE};
        for (int what : badWhat) {
            refuses(ARGUMENT, "ahead 1 " + what, TimeBoundaryTest::busy, y -> y.ahead(1, what));
        }
        ShareTickets x = place("machine 1;machine 3;check 20;job 0 60;job 0 41;job 0 1;job 0 1;");
        x.setUp(0, false);
        shows("x 1,2,3", x, "job 0 was interrupted and waits for a slot");
        int[][] due = {{1, 2, 0, 1, 1}, {40, 2, 0, 1, 1}, {41, 3, 0, 1, 2}, {60, 3, 0, 1, 2}, {61, 4, 0, 1, 3}, {100, 4, 0, 1, 3}};
        for (int[] d : due) {
            for (int what = 0; what <= 3; what++) {
                is(d[1 + what], x.ahead(d[0], what), "ahead " + d[0] + " " + what);
            }
        }
        ShareTickets y = place("machine 1;job 0 60;job 0 40;job 0 1;");
        is(1, y.ahead(99, 0), "finished jobs after 99");
        is(2, y.ahead(100, 0), "finished jobs after 100");
        is(0, new ShareTickets().ahead(100, 3), "free slots of no machine");
    }

    private static void driftOfNoUse() {
        about("promise 24: rounded down; 0 if the sum is 0");
        is(1000000, new ShareTickets().drift(), "the root alone without use");
        ShareTickets alone = place("machine 1;job 0 9;");
        alone.tick(1);
        is(0, alone.drift(), "the root alone with all use");
        ShareTickets x = twoLeaves();
        is(1000000, x.drift(), "two leaves without use");
        load(x, "user 0 1;user 0 1;machine 1;job 2 9;");
        x.tick(1);
        is(1000000, x.drift(), "all use of one of two");
        load(x, "user 0 1;user 0 1;machine 1;half 1;job 2 1;");
        x.tick(9);
        is(1, x.user(2, 5), "use");
        is(1000000, x.drift(), "a use of 1");
        x.tick(1);
        is(0, x.user(2, 5), "use");
        is(1000000, x.drift(), "a use of 0");
    }

    private static void aUseOfOneIsAUse() {
        about("promise 24: 0 if the sum is 0; promise 25: if the use of the root is 0");
        ShareTickets x = place("machine 1;half 1;job 0 1;");
        x.tick(9);
        is(1, x.user(0, 5), "use");
        is(0, x.drift(), "drift with a use of 1");
        is(Float.floatToIntBits(1f), Float.floatToIntBits(x.part(0)), "part with a use of 1");
        x.tick(1);
        is(0, x.user(0, 5), "use");
        is(1000000, x.drift(), "drift with a use of 0");
        fails(NO_SUCH, "part with a use of 0", () -> (long) x.part(0));
        ShareTickets y = place("user 0 1;user 0 3;machine 1;half 1;job 2 1;");
        y.tick(9);
        is(1, y.neediest(), "a use of 1 is all of it");
        y.tick(1);
        is(2, y.neediest(), "a use of 0 is none");
    }

    private static void driftIsRoundedDown() {
        about("promise 24: 1000000 times its use divided by the sum of the uses of all leaves (rounded down)");
        ShareTickets x = place("user 0 1;user 0 1;machine 3;half 50;job 1 9;job 2 9;job 2 9;");
        x.tick(1);
        is(166667 + 166666, x.drift(), "333333 and 666666 against 500000 each");
        x.lend(1, 2, 500000, 5);
        is(166667 + 166666, x.drift(), "base tickets, without loans");
    }

    private static void partNeedsUse() {
        about("promise 25: if the use of the root is 0; if the user does not exist");
        int[] none = {-1, 3, Integer.MIN_VALUE, Integer.MAX_VALUE};
        for (int user : none) {
            refuses(INDEX, "user " + user, TimeBoundaryTest::busy, y -> y.part(user));
            refuses(INDEX, "user without use", TimeBoundaryTest::twoLeaves, y -> y.part(user));
        }
        for (int user = 0; user <= 2; user++) {
            int u = user;
            refuses(NO_SUCH, "part of nothing", TimeBoundaryTest::twoLeaves, y -> y.part(u));
        }
        ShareTickets x = place("user 0 1;user 0 1;user 0 1;user 3 1;user 3 1;machine 4;half 1;job 1 1;job 4 1;job 5 1;");
        x.tick(1);
        float[] due = {1500f / 1500f, 500f / 1500f, 0f / 1500f, 1000f / 1500f, 500f / 1500f, 500f / 1500f};
        for (int user = 0; user <= 5; user++) {
            is(Float.floatToIntBits(due[user]), Float.floatToIntBits(x.part(user)), "part of " + user);
        }
        x.tick(8);
        is(1, x.user(5, 5), "use");
        is(Float.floatToIntBits(1f / 3f), Float.floatToIntBits(x.part(5)), "part with a use of 1");
        x.tick(1);
        fails(NO_SUCH, "part when all use is gone", () -> (long) x.part(0));
    }

    private static void neediestIsTheLowestOfSeveral() {
        about("promise 26: of several the lowest one");
        is(0, new ShareTickets().neediest(), "the root alone");
        is(1, twoLeaves().neediest(), "the first of two");
        is(1, place("user 0 1;".repeat(11)).neediest(), "the first of eleven");
        is(11, place("user 0 1;".repeat(10) + "user 0 2;").neediest(), "the last of eleven");
        is(2, place("user 0 1;user 0 1;user 1 1;user 1 1;").neediest(), "no one that is no leaf");
        ShareTickets x = place("user 0 1;user 0 1;user 0 1;machine 4;job 1 9;job 2 9;job 3 9;job 3 9;");
        x.tick(1);
        is(1, x.neediest(), "the first of two that have used less");
        x.setShares(2, 2);
        is(2, x.neediest(), "500000 - 250000");
        x.lend(2, 1, 400000, 9);
        is(2, x.neediest(), "base tickets, without loans");
        ShareTickets y = place("machine 1;job 0 9;");
        y.tick(1);
        is(0, y.neediest(), "the root alone with all use");
        ShareTickets z = place("user 0 1;user 0 98;machine 1;half 50;job 2 60;");
        z.tick(1);
        is(1, z.neediest(), "10101 of one without use");
        z.submit(1, 60);
        z.cancel(0);
        z.tick(1);
        is(2, z.neediest(), "989898 - 500000");
    }

    private static void neediestIsRoundedDown() {
        about("promise 26: minus 1000000 times its use divided by the sum of all uses (as for drift)");
        ShareTickets x = place("user 0 1;user 0 1;user 0 1;machine 3;half 50;job 1 9;job 2 9;job 3 9;");
        x.tick(1);
        is(1, x.neediest(), "333333 - 333333 of each");
        is(0, x.drift(), "drift");
    }

    public static void main(String[] args) {
        theTimeIsOneGreaterFirst();
        workIsDoneAndUseGrows();
        waitingJobsWaitOneTickMore();
        usesAreHalvedRoundedDown();
        theHalfLifeIsOneToFifty();
        halvedUsesCountForFilling();
        loansAreGoneBeforeFilling();
        slotsAreFilledBeforePreemption();
        finishedJobsAreNotPreempted();
        ticksAreOneToSixty();
        manyTicksAreAsManySingleOnes();
        theTimeEnds();
        inThoughtTheTimeGoesOn();
        finishedInIsOneToFourHundred();
        finishedInNeedsAJobThatIsOpen();
        predictionsCountPreemptionsAndLoans();
        aheadIsOneToHundred();
        driftOfNoUse();
        aUseOfOneIsAUse();
        driftIsRoundedDown();
        partNeedsUse();
        neediestIsTheLowestOfSeveral();
        neediestIsRoundedDown();
        end("section 4 and promises 21 to 26 hold at their boundaries");
    }
}
