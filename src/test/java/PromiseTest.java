/** The document's promises, one method each, with answers worked out by hand. */
public final class PromiseTest extends Checks {
    private static void p1NewObject() {
        ShareTickets x = new ShareTickets();
        int[] due = {1, 0, 0, 0, 0, 10, 50, 5, 0, 0, 0, 0, 0};
        for (int what = 0; what < due.length; what++) {
            is(due[what], x.count(what), "count " + what);
        }
        is(1000000, x.user(0, 3), "base tickets of the root");
        is(20, x.append(0, 0, 0, 0, 0), "append to the empty buffer");
        is(-1, ShareTickets.NONE, "NONE");
        is(-2, ShareTickets.SYNTAX_ERROR, "SYNTAX_ERROR");
        is(-3, ShareTickets.VALUE_ERROR, "VALUE_ERROR");
        is(-4, ShareTickets.TOO_MANY, "TOO_MANY");
    }

    private static void p2Append() {
        ShareTickets x = new ShareTickets();
        for (int i = 1; i <= 30; i++) {
            is(20 * i, x.append(SPACES, SPACES, SPACES, SPACES, SPACES), "append number " + i);
        }
        fails(STATE, "append number 31", () -> x.append(SPACES, SPACES, SPACES, SPACES, SPACES));
        is(1, x.load(600), "load of 600 spaces");
        // "user 0 7;" with the first byte the most significant one.
        is(20, x.append(0x75736572, 0x20302037, 0x3b202020, SPACES, SPACES), "append after load");
        is(2, x.load(9), "load of what was appended");
        is(7, x.user(1, 1), "shares read");
        is(20, x.append(0xff202020, SPACES, SPACES, SPACES, SPACES), "append of a byte above 127");
        is(-2, x.load(20), "load of a byte above 127");
        is(0, x.errorPosition(), "position of a byte above 127");
    }

    private static void p3Load() {
        ShareTickets x = place("user 0 1;user 0 3;machine 2;half 7;margin 0;check 20;half 9;job 1 5;job 2 60;job 2 1;");
        int[] due = {3, 1, 3, 0, 0, 9, 0, 20, 1, 2, 0, 0, 0};
        for (int what = 0; what < due.length; what++) {
            is(due[what], x.count(what), "count " + what);
        }
        shows("1,2", x, "a place whose jobs are filled in by worth");
        x.tick(3);
        is(-2, load(x, "machine 1;machine"), "a text with an error");
        is(1, x.count(1), "machines after an error");
        is(3, x.count(4), "time after an error");
        fails(ARGUMENT, "the buffer is empty after an error", () -> x.load(1));
        append(x, "machine 1;machine");
        fails(ARGUMENT, "length 21", () -> x.load(21));
        fails(ARGUMENT, "length -1", () -> x.load(-1));
        is(17, x.errorPosition(), "position after a load that throws");
        is(1, x.load(10), "load of the first bytes");
        fails(ARGUMENT, "the buffer is empty after a load", () -> x.load(1));
        int[] anew = {1, 1, 0, 0, 0, 10, 50, 5, 0, 0, 1, 0, 0};
        for (int what = 0; what < anew.length; what++) {
            is(anew[what], x.count(what), "count after a second load " + what);
        }
        is(1, x.load(0), "load of nothing");
        is(0, x.count(1), "machines after a load of nothing");
        is(2, load(x, "  user0 007 ;  job 1 0000000000000000000000000012;"), "spaces and zeros");
        is(7, x.user(1, 1), "shares with zeros in front");
        is(12, x.job(0, 1), "length with many zeros in front");
    }

    private static void p3SyntaxErrors() {
        tellsError(-2, 0, ";");
        tellsError(-2, 0, "7");
        tellsError(-2, 1, " users 0 1;");
        tellsError(-2, 0, "userz 0 1;");
        tellsError(-2, 0, "halfa 5;");
        tellsError(-2, 0, "use 0 1;");
        tellsError(-2, 0, "User 0 1;");
        tellsError(-2, 5, "user ;");
        tellsError(-2, 7, "user 0 ;");
        tellsError(-2, 6, "user 0x1;");
        tellsError(-2, 9, "user 0 1 1;");
        tellsError(-2, 5, "user -1 1;");
        tellsError(-2, 4, "user");
        tellsError(-2, 6, "user  ");
        tellsError(-2, 8, "user 0 1");
        tellsError(-2, 11, "user 0 1   ");
        tellsError(-2, 9, "machine 1,");
        tellsError(-2, 10, "machine 1;;");
        tellsError(-2, 6, "margin,1;");
        tellsError(-2, 4, "half\t5;");
        tellsError(-2, 9, "machine 1user 0 1;");
    }

    private static void p3ValueErrors() {
        tellsError(-3, 5, "user 1 1;");
        tellsError(-3, 7, "user 0 0;");
        tellsError(-3, 7, "user 0 100;");
        tellsError(-3, 7, "user 0 00000000000000000000100");
        tellsError(-3, 7, "user 0 4294967297;");
        tellsError(-3, 8, "machine 0;");
        tellsError(-3, 8, "machine 5;");
        tellsError(-3, 4, "job 1 5;");
        tellsError(-3, 6, "job 0 0;");
        tellsError(-3, 6, "job 0 61;");
        tellsError(-3, 5, "half 0;");
        tellsError(-3, 5, "half 51;");
        tellsError(-3, 7, "margin 401;");
        tellsError(-3, 6, "check 0;");
        tellsError(-3, 6, "check 21;");
        tellsError(-3, 13, "job 0 5;user 0 1;");
        tellsError(-3, 13, "user 0 1;job 0 5;");
        tellsError(-3, 5, "user 1x");
        is(2, load(new ShareTickets(), "user 0 99;machine 4;half 50;margin 400;check 20;job 1 60;"), "greatest numbers");
        is(2, load(new ShareTickets(), "user 0 1;machine 1;half 1;margin 0;check 1;job 1 1;"), "least numbers");
    }

    private static void p3TooMany() {
        String users = "user 0 1;".repeat(11);
        tellsError(-4, 99, users + "user");
        tellsError(-4, 100, users + " user 99 0;");
        is(12, load(new ShareTickets(), users), "12 users");
        String machines = "machine 1;".repeat(6);
        tellsError(-4, 60, machines + "machine 9;");
        is(6, place(machines).count(1), "6 machines");
        String jobs = "job 0 5;".repeat(30);
        tellsError(-4, 241, jobs + " job 0 5;");
        is(30, place(jobs).count(2), "30 jobs");
        tellsError(-2, 99, users + "userx 0 1;");
    }

    private static void p4ErrorPosition() {
        ShareTickets x = new ShareTickets();
        is(-1, x.errorPosition(), "position before any load");
        load(x, "user 0 0;");
        is(7, x.errorPosition(), "position of an error");
        load(x, "user 0 1;");
        is(-1, x.errorPosition(), "position after a text without an error");
        load(x, "user 0 1");
        x.undo();
        is(8, x.errorPosition(), "position after undo");
    }

    private static void p5Count() {
        ShareTickets x = place("user 0 1;user 0 1;machine 2;machine 3;check 3;job 1 9;job 2 9;job 1 5;job 1 6;");
        int[] due = {3, 2, 4, 0, 0, 10, 50, 3, 0, 4, 1, 0, 0};
        for (int what = 0; what < due.length; what++) {
            is(due[what], x.count(what), "count " + what);
        }
        x.tick(2);
        x.setUp(0, false);
        x.lend(1, 2, 10, 4);
        is(2, x.count(11), "interruptions");
        is(4, x.count(12), "work lost");
        is(1, x.count(3), "loans");
        is(2, x.count(4), "time");
        is(1, x.count(8), "waiting jobs");
        is(3, x.count(9), "running jobs");
        is(0, x.count(10), "free slots without those of a machine that is down");
        fails(ARGUMENT, "count -1", () -> x.count(-1));
        fails(ARGUMENT, "count 13", () -> x.count(13));
    }

    private static void p6User() {
        ShareTickets x = place("user 0 2;user 0 1;user 1 1;user 1 2;machine 3;job 3 9;job 4 9;job 4 8;job 2 1;job 2 1;");
        is(-1, x.user(0, 0), "parent of the root");
        is(0, x.user(0, 1), "shares of the root");
        is(2, x.user(0, 2), "children of the root, not those below them");
        is(1, x.user(3, 0), "parent");
        is(2, x.user(4, 1), "shares");
        int[] loads = {3, 2, 1, 1, 1};
        int[] waiting = {2, 1, 1, 0, 1};
        for (int user = 0; user < loads.length; user++) {
            is(loads[user], x.user(user, 6), "load of user " + user);
            is(waiting[user], x.user(user, 7), "waiting jobs of user " + user);
        }
        is(666666, x.user(1, 3), "base tickets, rounded down");
        is(222222, x.user(3, 3), "base tickets of a child, of those rounded down");
        is(444444, x.user(4, 4), "tickets without loans");
        x.lend(4, 3, 444444, 5);
        is(0, x.user(4, 4), "tickets of a lender");
        is(666666, x.user(3, 4), "tickets of a borrower");
        is(444444, x.user(4, 3), "base tickets of a lender");
        is(666666, x.user(1, 4), "tickets of one that is no leaf");
        x.tick(1);
        x.tick(1);
        is(x.user(0, 5), x.user(1, 5) + x.user(2, 5), "use of the root");
        is(6000, x.user(0, 5), "use of 3 jobs in 2 ticks");
        is(x.user(0, 6), x.user(3, 6) + x.user(4, 6) + x.user(2, 6), "load of the root");
        is(x.count(8), x.user(0, 7), "waiting jobs of the root");
        fails(INDEX, "user -1", () -> x.user(-1, 9));
        fails(INDEX, "user 5", () -> x.user(5, 0));
        fails(ARGUMENT, "what -1", () -> x.user(0, -1));
        fails(ARGUMENT, "what 8", () -> x.user(0, 8));
    }

    private static void p6TicketsAreCutAtTheEnd() {
        ShareTickets x = place("user 0 1;user 0 1;user 0 2;");
        x.lend(1, 2, 250000, 1);
        x.tick(1);
        // Paid back: 1 has 500000, and 2, with 250000, gives all of it; now 3 lends to 2 and 2 lends that on.
        is(500000, x.user(1, 4), "a lender that is paid back");
        is(0, x.user(2, 4), "a borrower that pays back");
        x.lend(3, 2, 100000, 9);
        is(100000, x.user(2, 4), "the sum of two loans");
        x.setShares(2, 99);
        x.setShares(3, 99);
        // Base tickets 5025, 497487, 497487; all loans are summed before the cut at 0.
        is(255025, x.user(1, 4), "after other shares");
        is(347487, x.user(2, 4), "after other shares");
        x.setShares(2, 1);
        // Base tickets 9900, 9900, 980198: 9900 - 250000 + 100000 is below 0.
        is(0, x.user(2, 4), "at least 0");
    }

    private static void p7AddUser() {
        ShareTickets x = place("user 0 1;user 0 1;machine 1;job 1 1;");
        is(3, x.addUser(0, 2), "addUser");
        is(250000, x.user(1, 3), "base tickets with a new sibling");
        is(500000, x.user(3, 3), "base tickets of the new user");
        is(4, x.addUser(2, 99), "addUser below a leaf");
        is(250000, x.user(4, 3), "base tickets of an only child");
        fails(INDEX, "parent -1", () -> x.addUser(-1, 0));
        fails(INDEX, "parent 5", () -> x.addUser(5, 1));
        fails(ARGUMENT, "shares 0", () -> x.addUser(1, 0));
        fails(ARGUMENT, "shares 100", () -> x.addUser(0, 100));
        fails(STATE, "a parent with a running job", () -> x.addUser(1, 1));
        x.tick(1);
        is(2, x.job(0, 3), "the job is finished");
        fails(STATE, "a parent with a finished job", () -> x.addUser(1, 1));
        x.lend(3, 4, 5, 1);
        fails(STATE, "a parent that lends", () -> x.addUser(3, 1));
        fails(STATE, "a parent that borrows", () -> x.addUser(4, 1));
        x.tick(1);
        fails(STATE, "a parent that is paid back", () -> x.addUser(3, 1));
        x.tick(1);
        is(5, x.addUser(3, 1), "addUser when the loan is gone");
        for (int user = 6; user < 12; user++) {
            is(user, x.addUser(0, 1), "addUser");
        }
        fails(STATE, "a 13th user", () -> x.addUser(0, 1));
        is(12, x.count(0), "users");
    }

    private static void p8SetShares() {
        ShareTickets x = place("user 0 1;user 0 3;user 2 5;machine 1;job 1 5;job 3 5;");
        is(1, x.setShares(1, 99), "setShares");
        is(99, x.setShares(1, 9), "setShares again");
        is(750000, x.user(1, 3), "base tickets after it");
        is(250000, x.user(3, 3), "base tickets of the child of a sibling");
        shows("1", x, "a machine after setShares, which fills and preempts nothing");
        fails(INDEX, "user 4", () -> x.setShares(4, 1));
        fails(INDEX, "user -1", () -> x.setShares(-1, 1));
        fails(ARGUMENT, "shares 0", () -> x.setShares(1, 0));
        fails(ARGUMENT, "shares 100", () -> x.setShares(1, 100));
        fails(ARGUMENT, "the root", () -> x.setShares(0, 1));
    }

    private static void p9Lend() {
        ShareTickets x = place("user 0 1;user 0 1;user 2 1;user 2 1;");
        is(0, x.lend(1, 3, 500000, 50), "lend all");
        is(0, x.user(1, 4), "tickets of the lender");
        is(750000, x.user(3, 4), "tickets of the borrower");
        fails(STATE, "more than the lender has", () -> x.lend(1, 4, 1, 1));
        fails(INDEX, "from -1", () -> x.lend(-1, 1, 1, 1));
        fails(INDEX, "to 5", () -> x.lend(1, 5, 0, 0));
        fails(ARGUMENT, "both the same", () -> x.lend(2, 2, 1, 1));
        fails(ARGUMENT, "tickets 0", () -> x.lend(3, 4, 0, 1));
        fails(ARGUMENT, "tickets 500001", () -> x.lend(3, 4, 500001, 1));
        fails(ARGUMENT, "ticks 0", () -> x.lend(3, 4, 1, 0));
        fails(ARGUMENT, "ticks 51", () -> x.lend(2, 4, 1, 51));
        fails(STATE, "from no leaf", () -> x.lend(2, 4, 1, 1));
        fails(STATE, "to no leaf", () -> x.lend(4, 0, 1, 1));
        for (int loan = 1; loan < 8; loan++) {
            is(loan, x.lend(3, 4, 1, loan), "lend");
        }
        fails(STATE, "a 9th loan", () -> x.lend(3, 4, 1, 1));
        x.tick(1);
        is(749995, x.user(3, 4), "six lend, one pays back");
        x.tick(1);
        is(7, x.count(3), "loans after twice the length of one");
        is(4, x.loan(1, 4), "loans behind it have lower numbers");
        is(7, x.lend(3, 4, 1, 1), "an 8th loan again");
    }

    private static void p10Loan() {
        ShareTickets x = place("user 0 1;user 0 1;");
        x.tick(3);
        x.lend(2, 1, 77, 2);
        int[] due = {2, 1, 77, 0, 7};
        for (int what = 0; what < due.length; what++) {
            is(due[what], x.loan(0, what), "loan " + what);
        }
        x.tick(1);
        is(0, x.loan(0, 3), "still lent");
        x.tick(1);
        is(1, x.loan(0, 3), "paid back");
        x.tick(1);
        is(7, x.loan(0, 4), "the time of its end");
        fails(ARGUMENT, "what -1", () -> x.loan(0, -1));
        fails(ARGUMENT, "what 5", () -> x.loan(0, 5));
        fails(INDEX, "loan 1", () -> x.loan(1, 9));
        fails(INDEX, "loan -1", () -> x.loan(-1, 0));
        x.tick(1);
        fails(INDEX, "a loan that is gone", () -> x.loan(0, 0));
    }

    private static void p11Balance() {
        ShareTickets x = place("user 0 1;user 0 1;user 0 1;");
        x.lend(1, 2, 1000, 3);
        is(0, x.balance(1), "balance at the beginning");
        int[] ofLender = {1000, 2000, 3000, 2000, 1000, 0};
        for (int due : ofLender) {
            x.tick(1);
            is(due, x.balance(1), "balance of the lender");
            is(-due, x.balance(2), "balance of the borrower");
        }
        x.lend(1, 2, 1000, 3);
        x.tick(2);
        x.lend(2, 3, 10, 4);
        x.tick(1);
        is(3000, x.balance(1), "balance of one loan");
        is(-2990, x.balance(2), "balance of two loans");
        is(-10, x.balance(3), "balance of the other loan");
        is(0, x.balance(0), "balance of the root");
        fails(INDEX, "user -1", () -> x.balance(-1));
        fails(INDEX, "user 4", () -> x.balance(4));
    }

    private static void p12Ranked() {
        ShareTickets x = place("user 0 4;user 0 2;user 0 2;user 0 1;machine 2;job 1 9;job 1 9;");
        // Worths of a next job: 444444 / 3 of user 1, 222222 of 2 and 3, 111111 of 4.
        int[] due = {2, 3, 1, 4};
        for (int place = 0; place < due.length; place++) {
            is(due[place], x.ranked(place), "place " + place);
        }
        fails(INDEX, "place -1", () -> x.ranked(-1));
        fails(INDEX, "as many as leaves", () -> x.ranked(4));
        is(5, x.addUser(2, 1), "addUser");
        is(3, x.ranked(0), "a leaf before one with a greater number");
        is(5, x.ranked(1), "a new leaf in place of its parent");
        fails(INDEX, "no place for one that is no leaf", () -> x.ranked(4));
    }

    private static void p13Worth() {
        ShareTickets x = place("user 0 2;user 0 1;user 1 1;machine 1;job 3 9;");
        is(666666, x.worth(3, 1), "worth");
        is(22222, x.worth(3, 30), "worth with k = 30");
        x.tick(2);
        is(31746, x.worth(3, 7), "worth after a use of 2000");
        x.lend(2, 3, 333333, 1);
        is(0, x.worth(2, 1), "worth of one that lent all");
        is(333333, x.worth(3, 1), "worth of a borrower");
        fails(INDEX, "user 4", () -> x.worth(4, 0));
        fails(INDEX, "user -1", () -> x.worth(-1, 1));
        fails(ARGUMENT, "k 0", () -> x.worth(1, 0));
        fails(ARGUMENT, "k 31", () -> x.worth(3, 31));
        fails(STATE, "no leaf", () -> x.worth(1, 1));
        fails(STATE, "the root", () -> x.worth(0, 1));
    }

    private static void p14Machine() {
        ShareTickets x = place("user 0 1;user 0 1;user 0 3;machine 3;machine 2;machine 4;job 1 9;job 2 9;job 3 9;");
        shows("0,1,2 - -", x, "three jobs");
        is(3, x.machine(0, 0), "slots");
        is(1, x.machine(0, 1), "up");
        is(3, x.machine(0, 2), "running jobs");
        is(1, x.machine(0, 3), "of two jobs with the least worth, the one with the highest number");
        is(0, x.machine(1, 2), "running jobs of an empty machine");
        is(-1, x.machine(1, 3), "the least of none");
        x.setUp(1, false);
        is(0, x.machine(1, 1), "down");
        is(2, x.machine(1, 0), "slots of one that is down");
        fails(INDEX, "machine -1", () -> x.machine(-1, 0));
        fails(INDEX, "machine 3", () -> x.machine(3, 7));
        fails(ARGUMENT, "what -1", () -> x.machine(0, -1));
        fails(ARGUMENT, "what 4", () -> x.machine(0, 4));
    }

    private static void p15Job() {
        ShareTickets x = place("user 0 1;user 0 2;machine 1;job 1 3;job 2 2;");
        int[] waiting = {1, 3, 0, 0, -1, -1, 0};
        int[] running = {2, 2, 0, 1, 0, -1, 0};
        for (int what = 0; what < 7; what++) {
            is(waiting[what], x.job(0, what), "waiting job " + what);
            is(running[what], x.job(1, what), "running job " + what);
        }
        x.tick(2);
        int[] finished = {2, 2, 2, 2, -1, 2, 0};
        int[] began = {1, 3, 0, 1, 0, -1, 2};
        for (int what = 0; what < 7; what++) {
            is(finished[what], x.job(1, what), "finished job " + what);
            is(began[what], x.job(0, what), "job that began " + what);
        }
        x.tick(1);
        x.cancel(0);
        int[] cancelled = {1, 3, 1, 3, -1, 3, 2};
        for (int what = 0; what < 7; what++) {
            is(cancelled[what], x.job(0, what), "cancelled job " + what);
        }
        fails(INDEX, "job -1", () -> x.job(-1, 0));
        fails(INDEX, "job 2", () -> x.job(2, 8));
        fails(ARGUMENT, "what -1", () -> x.job(0, -1));
        fails(ARGUMENT, "what 7", () -> x.job(0, 7));
    }

    private static void p16First() {
        ShareTickets x = place("user 0 1;user 0 2;user 0 2;job 1 3;job 3 2;job 2 5;job 3 5;");
        is(1, x.first(), "the lowest of several with the greatest worth");
        x.cancel(1);
        is(2, x.first(), "the next one");
        x.lend(2, 1, 300000, 9);
        is(0, x.first(), "the job of one that borrowed");
        x.cancel(0);
        x.cancel(2);
        x.cancel(3);
        fails(NO_SUCH, "first of none", () -> x.first());
        fails(NO_SUCH, "first of a new place", () -> new ShareTickets().first());
    }

    private static void p17Submit() {
        ShareTickets x = place("user 0 1;user 0 2;machine 1;machine 1;");
        is(0, x.submit(1, 60), "submit");
        is(1, x.submit(2, 1), "submit");
        is(2, x.submit(2, 5), "submit");
        shows("0 1", x, "two that run");
        is(0, x.job(2, 3), "one that waits");
        fails(INDEX, "user 3", () -> x.submit(3, 0));
        fails(INDEX, "user -1", () -> x.submit(-1, 1));
        fails(ARGUMENT, "length 0", () -> x.submit(0, 0));
        fails(ARGUMENT, "length 61", () -> x.submit(1, 61));
        fails(STATE, "no leaf", () -> x.submit(0, 1));
        for (int job = 3; job < 30; job++) {
            is(job, x.submit(1, 5), "submit");
        }
        fails(STATE, "a 31st job", () -> x.submit(1, 5));
        is(30, x.count(2), "jobs");
    }

    private static void p18Cancel() {
        ShareTickets x = place("user 0 1;user 0 2;machine 1;job 1 9;job 2 9;job 1 9;job 1 2;");
        x.tick(2);
        is(2, x.cancel(1), "cancel of a running job");
        is(2, x.job(1, 2), "its work done");
        is(3, x.job(1, 3), "its state");
        is(-1, x.job(1, 4), "its machine");
        is(2, x.job(1, 5), "its time");
        shows("0", x, "another one runs");
        is(0, x.cancel(3), "cancel of a waiting job");
        shows("0", x, "the same one runs");
        fails(STATE, "cancelled already", () -> x.cancel(3));
        fails(INDEX, "job 4", () -> x.cancel(4));
        fails(INDEX, "job -1", () -> x.cancel(-1));
        is(0, x.count(11) + x.count(12), "a cancelled job is not interrupted");
        ShareTickets y = place("machine 1;job 0 1;");
        y.tick(1);
        fails(STATE, "finished already", () -> y.cancel(0));
    }

    private static void p19SetUp() {
        ShareTickets x = place("machine 2;machine 1;check 4;job 0 60;job 0 60;job 0 60;job 0 60;");
        shows("0,1 2", x, "at first");
        x.tick(7);
        is(2, x.setUp(0, false), "two are interrupted");
        shows("x 2", x, "one is down");
        is(4, x.job(0, 2), "whole checkpoints are kept");
        is(2, x.count(11), "interruptions");
        is(6, x.count(12), "work lost");
        is(0, x.setUp(0, false), "down already");
        is(0, x.setUp(0, true), "up again");
        shows("0,1 2", x, "filled again");
        is(0, x.setUp(0, true), "up already");
        ShareTickets y = place("machine 1;machine 2;job 0 60;");
        is(1, y.setUp(0, false), "one is interrupted");
        shows("x 0", y, "it runs elsewhere at once");
        is(1, y.count(11), "interrupted all the same");
        fails(INDEX, "machine -1", () -> x.setUp(-1, true));
        fails(INDEX, "machine 2", () -> x.setUp(2, false));
    }

    private static void p20Set() {
        ShareTickets x = new ShareTickets();
        is(10, x.set(0, 50), "half-life");
        is(50, x.set(0, 1), "half-life");
        is(50, x.set(1, 400), "margin");
        is(400, x.set(1, 0), "margin");
        is(5, x.set(2, 20), "checkpoint");
        is(20, x.set(2, 1), "checkpoint");
        is(1, x.count(5), "half-life");
        is(0, x.count(6), "margin");
        is(1, x.count(7), "checkpoint");
        int[][] bad = {{0, 0}, {0, 51}, {1, -1}, {1, 401}, {2, 0}, {2, 21}, {-1, 5}, {3, 5}};
        for (int[] b : bad) {
            fails(ARGUMENT, "set " + b[0] + " " + b[1], () -> x.set(b[0], b[1]));
        }
    }

    private static void p21Tick() {
        ShareTickets x = place("machine 2;half 2;job 0 1;job 0 2;job 0 2;");
        is(1, x.tick(1), "one is finished");
        is(2000, x.user(0, 5), "use");
        shows("1,2", x, "the next one runs");
        is(1, x.tick(1), "another one is finished");
        is(2000, x.user(0, 5), "use is halved after the work");
        is(1, x.tick(1), "the last one is finished");
        is(3000, x.user(0, 5), "use");
        is(1, x.job(2, 6), "ticks waited");
        x.tick(1);
        x.tick(2);
        is(750, x.user(0, 5), "use is halved in each tick that the half-life divides");
        x.tick(4);
        is(187, x.user(0, 5), "rounded down");
        x.set(0, 1);
        x.tick(1);
        is(93, x.user(0, 5), "a half-life of 1");
        fails(ARGUMENT, "ticks 0", () -> x.tick(0));
        fails(ARGUMENT, "ticks 61", () -> x.tick(61));
        while (x.count(4) + 60 <= 9999) {
            x.tick(60);
        }
        is(9971, x.count(4), "time");
        fails(STATE, "past 9999", () -> x.tick(29));
        fails(ARGUMENT, "wrong before late", () -> x.tick(61));
        is(0, x.tick(28), "up to 9999");
        fails(STATE, "past 9999", () -> x.tick(1));
        x.submit(0, 60);
        is(60, x.finishedIn(3), "in thought time goes on");
        is(4, x.ahead(60, 0), "in thought time goes on");
    }

    private static void p21Preemption() {
        ShareTickets x = place("user 0 1;user 0 3;machine 1;machine 1;check 2;margin 100;job 1 60;job 1 60;job 2 9;job 2 9;");
        // At time 0: 750000 of user 2 goes first, then 375000 of it before 250000 of user 1.
        shows("2 3", x, "filled");
        x.tick(1);
        // Uses 0 and 2000: the waiting are worth 250000, the running 750000000 / 6000 = 125000: not more than 200 percent.
        shows("2 3", x, "twice the worth is not enough");
        x.undo();
        x.set(1, 99);
        x.tick(1);
        shows("0 3", x, "twice the worth is enough with a margin of 99");
        x.undo();
        x.undo();
        is(100, x.count(6), "margin");
        x.tick(1);
        x.tick(1);
        // Uses 0 and 4000: running 750000000 / 10000 = 75000, waiting 250000: machine 0 preempts its job 2; then user 2
        // has a load of 1, 150000 running, against a waiting one of user 1 with 125000, of user 2 with 75000.
        shows("0 3", x, "a machine preempts one");
        is(1, x.count(11), "interruptions");
        is(0, x.count(12), "whole checkpoints are not lost");
        is(2, x.job(2, 2), "work that is kept");
    }

    private static void p21HighestOfSeveralIsPreempted() {
        ShareTickets x = place("user 0 1;user 0 1;machine 2;margin 0;job 1 60;job 1 60;");
        x.submit(2, 5);
        x.tick(1);
        shows("0,2", x, "of several with the least worth the highest number is interrupted");
        is(1, x.count(12), "the work below a checkpoint is lost");
        is(0, x.job(1, 2), "it begins anew");
    }

    private static void p22FinishedIn() {
        ShareTickets x = place("machine 1;job 0 60;job 0 60;job 0 60;job 0 60;job 0 60;job 0 60;job 0 60;job 0 1;margin 400;");
        is(60, x.finishedIn(0), "the running one");
        is(360, x.finishedIn(5), "the sixth one");
        is(-1, x.finishedIn(6), "the seventh one, after 420 ticks");
        x.tick(19);
        is(-1, x.finishedIn(6), "after 401 ticks");
        x.tick(1);
        is(400, x.finishedIn(6), "after 400 ticks");
        x.tick(1);
        is(400, x.finishedIn(7), "the eighth one after 400 ticks");
        is(21, x.count(4), "time does not go on");
        is(21, x.job(0, 2), "work does not go on");
        x.setUp(0, false);
        is(-1, x.finishedIn(0), "with no machine that is up");
        x.cancel(0);
        fails(STATE, "cancelled", () -> x.finishedIn(0));
        fails(INDEX, "job -1", () -> x.finishedIn(-1));
        fails(INDEX, "job 8", () -> x.finishedIn(8));
        ShareTickets y = place("machine 1;job 0 1;");
        is(1, y.finishedIn(0), "after 1 tick");
        y.tick(1);
        fails(STATE, "finished", () -> y.finishedIn(0));
    }

    private static void p23Ahead() {
        ShareTickets x = place("machine 1;job 0 2;job 0 3;job 0 50;");
        x.tick(2);
        is(1, x.ahead(1, 0), "finished jobs, those of before among them");
        is(2, x.ahead(3, 0), "finished jobs");
        is(1, x.ahead(2, 1), "waiting jobs");
        is(0, x.ahead(3, 1), "waiting jobs");
        is(0, x.ahead(3, 3), "free slots");
        is(2, x.ahead(52, 0), "finished jobs");
        is(3, x.ahead(53, 0), "finished jobs");
        is(1, x.ahead(100, 3), "free slots");
        is(2, x.count(4), "time does not go on");
        ShareTickets y = place("user 0 1;user 0 1;machine 1;margin 0;job 1 60;job 2 60;");
        is(1, y.ahead(1, 2), "interruptions");
        y.setUp(0, false);
        is(1, y.ahead(5, 2), "interruptions of before");
        is(0, y.ahead(5, 3), "free slots of a machine that is down");
        int[][] bad = {{0, 0}, {101, 0}, {1, -1}, {1, 4}};
        for (int[] b : bad) {
            fails(ARGUMENT, "ahead " + b[0] + " " + b[1], () -> x.ahead(b[0], b[1]));
        }
    }

    private static void p24Drift() {
        is(1000000, new ShareTickets().drift(), "drift without use");
        ShareTickets x = place("user 0 1;user 0 1;user 0 1;user 2 1;machine 3;job 1 9;job 4 1;job 1 9;");
        is(999999, x.drift(), "drift without use");
        x.tick(1);
        // Uses 2000, 0, 1000 of leaves with 333333 each.
        is(333333 + 333333, x.drift(), "666666, 0 and 333333 against 333333 each");
        x.tick(1);
        is(800000 - 333333 + 333333 + 133333, x.drift(), "800000, 0 and 200000 against 333333 each");
    }

    private static void p25Part() {
        ShareTickets x = place("user 0 1;user 0 1;user 0 1;user 2 1;machine 3;half 50;job 1 9;job 4 9;job 1 9;");
        fails(NO_SUCH, "part without use", () -> (long) x.part(0));
        x.tick(1);
        is(Float.floatToIntBits(2000f / 3000f), Float.floatToIntBits(x.part(1)), "part");
        is(Float.floatToIntBits(1000f / 3000f), Float.floatToIntBits(x.part(2)), "part of one that is no leaf");
        is(Float.floatToIntBits(0f), Float.floatToIntBits(x.part(3)), "part of one without use");
        is(Float.floatToIntBits(1f), Float.floatToIntBits(x.part(0)), "part of the root");
        fails(INDEX, "user -1", () -> (long) x.part(-1));
        fails(INDEX, "user 5", () -> (long) new ShareTickets().part(5));
    }

    private static void p26Neediest() {
        is(0, new ShareTickets().neediest(), "the root alone");
        ShareTickets x = place("user 0 1;user 0 3;user 0 3;user 2 1;machine 2;job 3 9;job 4 9;");
        is(3, x.neediest(), "the lowest leaf of several");
        x.tick(1);
        is(1, x.neediest(), "142857, -71429 and -71429");
        x.lend(1, 3, 100000, 9);
        is(1, x.neediest(), "loans do not count");
    }

    private static void p27WriteMachines() {
        ShareTickets x = new ShareTickets();
        is(0, x.writeMachines(), "no machines");
        load(x, "machine 4;machine 2;machine 1;" + "job 0 9;".repeat(12));
        shows("0,1,2,3 4,5 6", x, "in order");
        x.setUp(1, false);
        shows("0,1,2,3 x 6", x, "one down");
        for (int job = 0; job < 10; job++) {
            x.cancel(job);
        }
        shows("10 x 11", x, "two digits");
        x.cancel(10);
        shows("- x 11", x, "none");
        is(6, x.writeMachines(), "length");
        ShareTickets y = place("machine 4;".repeat(6) + "job 0 9;".repeat(30));
        shows("0,1,2,3 4,5,6,7 8,9,10,11 12,13,14,15 16,17,18,19 20,21,22,23", y, "all full");
    }

    private static void p28WrittenByte() {
        ShareTickets x = place("machine 1;");
        fails(INDEX, "nothing was written", () -> x.writtenByte(0));
        is(1, x.writeMachines(), "length");
        is('-', x.writtenByte(0), "byte");
        fails(INDEX, "index -1", () -> x.writtenByte(-1));
        fails(INDEX, "index 1", () -> x.writtenByte(1));
        x.setUp(0, false);
        is('-', x.writtenByte(0), "what was written stays");
        x.undo();
        x.undo();
        is('-', x.writtenByte(0), "undo leaves the written text");
        x.writeMachines();
        fails(INDEX, "a shorter text", () -> x.writtenByte(0));
    }

    private static void p29Undo() {
        ShareTickets x = new ShareTickets();
        fails(STATE, "nothing to undo", () -> x.undo());
        load(x, "user 0 0;");
        fails(STATE, "a text with an error is no change", () -> x.undo());
        load(x, "user 0 1;user 0 1;machine 1;");
        x.addUser(0, 2);
        x.setShares(1, 5);
        x.submit(1, 9);
        x.lend(2, 3, 5, 1);
        x.tick(3);
        x.set(0, 7);
        x.cancel(0);
        is(0, x.count(9), "running jobs");
        is(7, x.undo(), "undo of cancel");
        is(1, x.count(9), "running jobs");
        is(6, x.undo(), "undo of set");
        is(10, x.count(5), "half-life");
        is(5, x.undo(), "undo of tick");
        is(0, x.count(4), "time");
        is(1, x.count(3), "a loan that was gone");
        is(0, x.user(0, 5), "use");
        is(4, x.undo(), "undo of lend");
        is(0, x.count(3), "loans");
        is(3, x.undo(), "undo of submit");
        is(0, x.count(2), "jobs");
        is(2, x.undo(), "undo of setShares");
        is(1, x.user(1, 1), "shares");
        is(1, x.undo(), "undo of addUser");
        is(3, x.count(0), "users");
        is(500000, x.user(1, 3), "base tickets");
        is(0, x.undo(), "undo of load");
        is(0, x.count(1), "machines");
        fails(STATE, "nothing to undo", () -> x.undo());
    }

    private static void p29OnlyEightAndWhatStays() {
        ShareTickets x = new ShareTickets();
        for (int shares = 1; shares <= 10; shares++) {
            x.addUser(0, shares);
        }
        fails(INDEX, "a call that throws is no change", () -> x.addUser(44, 1));
        append(x, "user 0 1;");
        for (int left = 7; left >= 4; left--) {
            is(left, x.undo(), "undo");
        }
        x.set(0, 10);
        is(4, x.undo(), "a change that changes nothing can be undone, too");
        for (int left = 3; left >= 0; left--) {
            is(left, x.undo(), "undo");
        }
        is(3, x.count(0), "users after 8 times undo");
        fails(STATE, "a ninth one", () -> x.undo());
        is(2, x.load(9), "the text buffer stays");
        is(0, x.undo(), "undo of load");
        is(3, x.count(0), "users");
        ShareTickets y = place("machine 1;job 0 9;");
        y.setUp(0, false);
        is(1, y.count(11), "interruptions");
        y.undo();
        is(0, y.count(11), "interruptions after undo");
        shows("0", y, "the machine is up again");
    }

    private static void p29LoansAndWaiting() {
        ShareTickets x = place("user 0 1;user 0 1;user 0 2;machine 1;job 3 9;job 1 9;");
        x.lend(1, 2, 10, 1);
        x.lend(2, 3, 20, 9);
        x.tick(1);
        x.load(0);
        x.undo();
        is(1, x.job(1, 6), "ticks waited");
        x.tick(1);
        is(2, x.loan(0, 0), "the lender of the loan that is left");
        x.undo();
        int[][] due = {{1, 2, 10, 1, 2}, {2, 3, 20, 0, 18}};
        for (int what = 0; what < 5; what++) {
            is(due[0][what], x.loan(0, what), "first loan " + what);
            is(due[1][what], x.loan(1, what), "second loan " + what);
        }
        load(x, "user 0 1;");
        is(0, x.count(3), "loans after a load");
    }

    private static void allPromises() {
        for (int promise = 1; promise <= 29; promise++) {
            about("promise " + promise);
            switch (promise) {
                case 1: p1NewObject(); break;
                case 2: p2Append(); break;
                case 3: p3Load(); p3SyntaxErrors(); p3ValueErrors(); p3TooMany(); break;
                case 4: p4ErrorPosition(); break;
                case 5: p5Count(); break;
                case 6: p6User(); p6TicketsAreCutAtTheEnd(); break;
                case 7: p7AddUser(); break;
                case 8: p8SetShares(); break;
                case 9: p9Lend(); break;
                case 10: p10Loan(); break;
                case 11: p11Balance(); break;
                case 12: p12Ranked(); break;
                case 13: p13Worth(); break;
                case 14: p14Machine(); break;
                case 15: p15Job(); break;
                case 16: p16First(); break;
                case 17: p17Submit(); break;
                case 18: p18Cancel(); break;
                case 19: p19SetUp(); break;
                case 20: p20Set(); break;
                case 21: p21Tick(); p21Preemption(); p21HighestOfSeveralIsPreempted(); break;
                case 22: p22FinishedIn(); break;
                case 23: p23Ahead(); break;
                case 24: p24Drift(); break;
                case 25: p25Part(); break;
                case 26: p26Neediest(); break;
                case 27: p27WriteMachines(); break;
                case 28: p28WrittenByte(); break;
                default: p29Undo(); p29OnlyEightAndWhatStays(); p29LoansAndWaiting(); break;
            }
        }
    }

    public static void main(String[] args) {
        allPromises();
        end("all promises hold");
    }
}
