/** The changes of section 5, section 6 and promise 29: a method for each sentence that names a boundary. */
public final class UndoBoundaryTest extends Checks {
    private static final String TEXT = "user 0 1;user 0 3;user 1 2;user 1 5;machine 1;machine 2;machine 3;check 3;half 7;"
        + "margin 20;job 3 4;job 4 30;job 2 1;job 2 20;job 3 60;job 4 7;job 2 3;job 2 40;";

    /** Some of everything, with four changes. */
    private static ShareTickets young() {
        ShareTickets x = place(TEXT);
        x.setUp(2, false);
        x.lend(2, 3, 20000, 4);
        x.tick(5);
        load(x, "machine 1;user 0");
        x.writeMachines();
        append(x, "job 2 5;");
        return x;
    }

    /** Some of everything, with more changes than can be undone. */
    private static ShareTickets old() {
        ShareTickets x = young();
        x.lend(4, 2, 1000, 30);
        x.cancel(4);
        x.setShares(4, 7);
        x.tick(2);
        x.set(1, 10);
        return x;
    }

    /** All that there can be at most: users, machines, jobs, loans, changes and bytes. */
    private static ShareTickets full() {
        ShareTickets x = place("user 0 1;".repeat(11) + "machine 4;".repeat(6) + "job 1 9;".repeat(30));
        for (int loan = 0; loan < 8; loan++) {
            x.lend(2 + loan, 11, 10, 50);
        }
        x.tick(1);
        x.writeMachines();
        for (int i = 0; i < 30; i++) {
            x.append(SPACES, SPACES, SPACES, SPACES, SPACES);
        }
        return x;
    }

    private static ShareTickets endOfTime() {
        ShareTickets x = place(TEXT);
        for (int i = 0; i < 166; i++) {
            x.tick(60);
        }
        x.tick(38);
        return x;
    }

    private static void refusesOnAll(Class<? extends Throwable> due, String what, Act call) {
        refuses(due, what, UndoBoundaryTest::young, call);
        refuses(due, what, UndoBoundaryTest::old, call);
        refuses(due, what, UndoBoundaryTest::full, call);
    }

    private static void refusedIndexesChangeNothing() {
        about("section 6: A method that throws an exception changes nothing");
        refusesOnAll(INDEX, "user", x -> x.user(12, 0));
        refusesOnAll(INDEX, "addUser", x -> x.addUser(12, 1));
        refusesOnAll(INDEX, "setShares", x -> x.setShares(-1, 1));
        refusesOnAll(INDEX, "lend from", x -> x.lend(12, 2, 1, 1));
        refusesOnAll(INDEX, "lend to", x -> x.lend(2, -1, 1, 1));
        refusesOnAll(INDEX, "loan", x -> x.loan(8, 0));
        refusesOnAll(INDEX, "balance", x -> x.balance(12));
        refusesOnAll(INDEX, "ranked", x -> x.ranked(11));
        refusesOnAll(INDEX, "worth", x -> x.worth(12, 1));
        refusesOnAll(INDEX, "machine", x -> x.machine(6, 0));
        refusesOnAll(INDEX, "job", x -> x.job(30, 0));
        refusesOnAll(INDEX, "submit", x -> x.submit(12, 1));
        refusesOnAll(INDEX, "cancel", x -> x.cancel(30));
        refusesOnAll(INDEX, "setUp", x -> x.setUp(6, false));
        refusesOnAll(INDEX, "finishedIn", x -> x.finishedIn(30));
        refusesOnAll(INDEX, "part", x -> x.part(12));
        refusesOnAll(INDEX, "writtenByte", x -> x.writtenByte(99));
    }

    private static void refusedArgumentsChangeNothing() {
        about("section 6: A method that throws an exception changes nothing");
        refusesOnAll(ARGUMENT, "load", x -> x.load(601));
        refusesOnAll(ARGUMENT, "count", x -> x.count(13));
        refusesOnAll(ARGUMENT, "user", x -> x.user(0, 8));
        refusesOnAll(ARGUMENT, "addUser", x -> x.addUser(3, 100));
        refusesOnAll(ARGUMENT, "setShares", x -> x.setShares(1, 0));
        refusesOnAll(ARGUMENT, "setShares of the root", x -> x.setShares(0, 1));
        refusesOnAll(ARGUMENT, "lend to itself", x -> x.lend(2, 2, 1, 1));
        refusesOnAll(ARGUMENT, "lend tickets", x -> x.lend(2, 3, 0, 1));
        refusesOnAll(ARGUMENT, "lend ticks", x -> x.lend(2, 3, 1, 51));
        refusesOnAll(ARGUMENT, "loan", x -> x.loan(0, 5));
        refusesOnAll(ARGUMENT, "worth", x -> x.worth(2, 31));
        refusesOnAll(ARGUMENT, "machine", x -> x.machine(0, 4));
        refusesOnAll(ARGUMENT, "job", x -> x.job(0, 7));
        refusesOnAll(ARGUMENT, "submit", x -> x.submit(2, 61));
        refusesOnAll(ARGUMENT, "set what", x -> x.set(3, 1));
        refusesOnAll(ARGUMENT, "set value", x -> x.set(0, 51));
        refusesOnAll(ARGUMENT, "tick", x -> x.tick(61));
        refusesOnAll(ARGUMENT, "ahead ticks", x -> x.ahead(101, 0));
        refusesOnAll(ARGUMENT, "ahead what", x -> x.ahead(1, 4));
    }

    private static void refusedStatesChangeNothing() {
        about("section 6: A method that throws an exception changes nothing");
        Recipe old = UndoBoundaryTest::old;
        Recipe full = UndoBoundaryTest::full;
        refuses(STATE, "addUser with jobs", old, x -> x.addUser(4, 1));
        refuses(STATE, "addUser of a 13th", full, x -> x.addUser(0, 1));
        refuses(STATE, "lend from no leaf", old, x -> x.lend(1, 2, 1, 1));
        refuses(STATE, "lend to no leaf", old, x -> x.lend(2, 0, 1, 1));
        refuses(STATE, "lend too much", old, x -> x.lend(3, 2, 499999, 1));
        refuses(STATE, "lend a 9th time", full, x -> x.lend(1, 2, 1, 1));
        refuses(STATE, "worth of no leaf", old, x -> x.worth(1, 1));
        refuses(STATE, "submit of no leaf", old, x -> x.submit(1, 1));
        refuses(STATE, "submit of a 31st", full, x -> x.submit(1, 1));
        refuses(STATE, "cancel of a cancelled one", old, x -> x.cancel(4));
        refuses(STATE, "cancel of a finished one", old, x -> x.cancel(2));
        refuses(STATE, "finishedIn of a cancelled one", old, x -> x.finishedIn(4));
        refuses(STATE, "finishedIn of a finished one", old, x -> x.finishedIn(2));
        refuses(STATE, "append to a full buffer", full, x -> x.append(1, 2, 3, 4, 5));
        refuses(STATE, "tick beyond the end of time", UndoBoundaryTest::endOfTime, x -> x.tick(2));
        refuses(STATE, "tick far beyond the end of time", UndoBoundaryTest::endOfTime, x -> x.tick(60));
        refuses(NO_SUCH, "first of none", ShareTickets::new, x -> x.first());
        refuses(NO_SUCH, "part of none", ShareTickets::new, x -> x.part(0));
    }

    private static void questionsAreNoChanges() {
        about("section 5: The changes are all calls of load, addUser, setShares, submit, cancel, setUp, set, lend and tick");
        Recipe old = UndoBoundaryTest::old;
        changesNothing("errorPosition", old, x -> x.errorPosition());
        changesNothing("count", old, x -> x.count(10));
        changesNothing("user", old, x -> x.user(1, 7));
        changesNothing("loan", old, x -> x.loan(0, 3));
        changesNothing("balance", old, x -> x.balance(2));
        changesNothing("ranked", old, x -> x.ranked(1));
        changesNothing("worth", old, x -> x.worth(2, 30));
        changesNothing("machine", old, x -> x.machine(1, 3));
        changesNothing("job", old, x -> x.job(1, 2));
        changesNothing("first", old, x -> x.first());
        changesNothing("finishedIn", old, x -> x.finishedIn(1));
        changesNothing("ahead", old, x -> x.ahead(100, 0));
        changesNothing("drift", old, x -> x.drift());
        changesNothing("part", old, x -> x.part(2));
        changesNothing("neediest", old, x -> x.neediest());
        changesNothing("writtenByte", old, x -> x.writtenByte(0));
        is(4, undos(young()), "changes");
        ShareTickets x = young();
        x.append(SPACES, SPACES, SPACES, SPACES, SPACES);
        x.writeMachines();
        is(4, undos(x), "changes when append and writeMachines were called");
    }

    /** How many changes can be undone. */
    private static int undos(ShareTickets x) {
        for (int undone = 1; undone < 20; undone++) {
            if (x.undo() == 0) {
                fails(STATE, "undo of none", () -> x.undo());
                return undone;
            }
        }
        return -1;
    }

    private static void eachKindOfChangeIsOne() {
        about("section 5: undoing a change brings back everything as it was before it");
        one("addUser", x -> x.addUser(0, 9));
        one("setShares", x -> x.setShares(2, 9));
        one("setShares to the same", x -> x.setShares(2, 3));
        one("submit", x -> x.submit(2, 9));
        one("cancel of a waiting one", x -> x.cancel(x.first()));
        one("cancel of a running one", x -> x.cancel(x.machine(1, 3)));
        one("setUp of one that is up", x -> x.setUp(1, true));
        one("setUp down", x -> x.setUp(1, false));
        one("setUp of one that is down", x -> x.setUp(2, false));
        one("setUp up", x -> x.setUp(2, true));
        one("set of the half-life", x -> x.set(0, 50));
        one("set of the margin", x -> x.set(1, 400));
        one("set of the checkpoint", x -> x.set(2, 1));
        one("set to the same", x -> x.set(2, 3));
        one("lend", x -> x.lend(3, 4, 1, 50));
        one("tick", x -> x.tick(1));
        one("many ticks", x -> x.tick(60));
    }

    private static void one(String what, Act change) {
        isOneChange(what, UndoBoundaryTest::young, change);
        isOneMoreChange(what, UndoBoundaryTest::old, change);
    }

    private static void aTextIsOneChangeIfItHasNoError() {
        about("section 5: (a text with an error is no change)");
        ShareTickets x = young();
        x.load(0);
        is(4, x.undo(), "undo of load");
        is(8, x.count(2), "jobs");
        is(5, x.count(4), "time");
        is(1, x.count(3), "loans");
        is(0, x.machine(2, 1), "a machine that is down");
        load(x, "user 0 0;");
        load(x, "user 0 1");
        load(x, "machine 1;".repeat(7));
        is(3, x.undo(), "undo of tick");
        is(0, x.count(4), "time");
    }

    private static void theLatestEightCanBeUndone() {
        about("section 5: The latest 8 changes can be undone, older ones cannot any more");
        for (int changes = 0; changes <= 20; changes++) {
            ShareTickets x = new ShareTickets();
            for (int value = 1; value <= changes; value++) {
                x.set(0, 20 + value);
            }
            int least = Math.max(0, changes - 8);
            for (int left = changes - 1; left >= least; left--) {
                is(left - least, x.undo(), "undo of one of " + changes);
                is(left == 0 ? 10 : 20 + left, x.count(5), "half-life");
            }
            fails(STATE, "undo of an older one", () -> x.undo());
            is(least == 0 ? 10 : 20 + least, x.count(5), "half-life when none can be undone any more");
        }
        refuses(STATE, "undo of none", ShareTickets::new, x -> x.undo());
    }

    private static void changesGoOnBehindUndo() {
        about("promise 29: Undoes the latest change that has not been undone");
        ShareTickets x = new ShareTickets();
        for (int value = 1; value <= 12; value++) {
            x.set(1, value);
        }
        for (int left = 7; left >= 3; left--) {
            is(left, x.undo(), "undo");
        }
        is(7, x.count(6), "margin");
        x.set(1, 100);
        x.set(1, 101);
        is(4, x.undo(), "undo of a new change");
        is(100, x.count(6), "margin");
        is(3, x.undo(), "undo of the other new change");
        is(7, x.count(6), "margin");
        for (int value = 1; value <= 5; value++) {
            x.set(1, 200 + value);
        }
        is(7, x.undo(), "undo");
        for (int value = 4; value >= 1; value--) {
            is(200 + value, x.count(6), "margin");
            x.undo();
        }
        is(7, x.count(6), "margin");
        is(2, x.undo(), "undo of an old change");
        is(6, x.count(6), "margin");
        x.undo();
        is(0, x.undo(), "undo of the oldest change");
        is(4, x.count(6), "margin");
        fails(STATE, "undo of one that is older", () -> x.undo());
        x.set(1, 0);
        is(0, x.undo(), "undo of a change behind that");
        is(4, x.count(6), "margin");
    }

    private static void whatIsAskedFirstBehindUndo() {
        about("section 5: undoing a change brings back everything as it was before it");
        Recipe undone = () -> {
            ShareTickets x = place("user 0 1;user 0 1;machine 2;job 1 9;job 2 9;job 1 9;job 2 9;");
            x.lend(1, 2, 1000, 9);
            x.tick(1);
            x.setUp(0, false);
            x.setShares(1, 99);
            is(4, x.undo(), "undo of setShares");
            is(3, x.undo(), "undo of setUp");
            return x;
        };
        is(2, undone.make().machine(0, 2), "running jobs");
        is(0, undone.make().machine(0, 3), "the running job with the least worth");
        is(501000, undone.make().user(2, 4), "tickets");
        is(1, undone.make().user(1, 6), "load");
        is(1, undone.make().user(1, 7), "waiting jobs");
        is(3, undone.make().first(), "the first one");
        is(2, undone.make().ranked(0), "the first leaf");
        is(250500, undone.make().worth(2, 1), "worth");
        is(0, undone.make().count(10), "free slots");
        is(8, undone.make().finishedIn(0), "ticks until one is finished");
        is(8, undone.make().finishedIn(1), "ticks until one is finished");
        is(2, undone.make().ahead(8, 0), "finished jobs ahead");
        shows("0,1", undone.make(), "the machine");
    }

    private static void whatUndoLeaves() {
        about("section 5: but not the text buffer, the position of the error and the written text");
        ShareTickets x = place("machine 1;");
        x.submit(0, 9);
        is(1, x.writeMachines(), "length");
        append(x, "user 0 1;machine 4;u");
        x.undo();
        is('0', x.writtenByte(0), "the written text");
        shows("-", x, "the machines");
        x.undo();
        is('-', x.writtenByte(0), "the written text");
        is(40, x.append(SPACES, SPACES, SPACES, SPACES, SPACES), "the text buffer");
        is(-2, x.load(20), "the text buffer");
        is(19, x.errorPosition(), "position");
        x.set(0, 1);
        x.undo();
        is(19, x.errorPosition(), "position behind undo");
        append(x, "half 7;");
        x.load(7);
        append(x, "half 9;");
        x.undo();
        is(-1, x.errorPosition(), "position behind undo of a load without an error");
        is(1, x.load(7), "a text appended before undo");
        is(9, x.count(5), "half-life");
        x.undo();
        fails(ARGUMENT, "what was loaded does not come back", () -> x.load(1));
        ShareTickets y = place("machine 1;");
        load(y, "x");
        load(y, "");
        load(y, ";");
        y.undo();
        is(0, y.errorPosition(), "position of a load that was no change");
    }

    private static void fiveHundredAndTwelveCalls() {
        about("An object is used for at most 512 calls after it has been made");
        ShareTickets x = new ShareTickets();
        for (int call = 1; call <= 166; call++) {
            is(0, x.tick(60), "tick");
        }
        is(9960, x.count(4), "time");
        for (int call = 168; call <= 510; call++) {
            x.set(0, 1 + call % 50);
        }
        is(7, x.undo(), "undo");
        is(10, x.count(5), "half-life of the call 509");
    }

    public static void main(String[] args) {
        refusedIndexesChangeNothing();
        refusedArgumentsChangeNothing();
        refusedStatesChangeNothing();
        questionsAreNoChanges();
        eachKindOfChangeIsOne();
        aTextIsOneChangeIfItHasNoError();
        theLatestEightCanBeUndone();
        changesGoOnBehindUndo();
        whatIsAskedFirstBehindUndo();
        whatUndoLeaves();
        fiveHundredAndTwelveCalls();
        end("the changes, section 6 and promise 29 hold at their boundaries");
    }
}
