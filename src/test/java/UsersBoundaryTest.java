/** Section 1 of the document's terms and promises 5 to 13: a method for each sentence that names a boundary. */
public final class UsersBoundaryTest extends Checks {
    private static ShareTickets twelveUsers() {
        return place("user 0 1;".repeat(11));
    }

    /** The users 1 and 2 have the same shares; 2 has the child 3. */
    private static ShareTickets threeBelowTheRoot() {
        return place("user 0 1;user 0 1;user 2 1;");
    }

    private static ShareTickets twoLeaves() {
        return place("user 0 1;user 0 1;");
    }

    private static ShareTickets eightLoans() {
        ShareTickets x = twoLeaves();
        for (int loan = 0; loan < 8; loan++) {
            x.lend(1, 2, 1, 5 + loan);
        }
        return x;
    }

    private static void atMostTwelveUsers() {
        about("section 1: There are at most 12 users, numbered from 0");
        ShareTickets x = new ShareTickets();
        for (int user = 1; user <= 11; user++) {
            is(user, x.addUser(0, 1), "addUser");
        }
        is(12, x.count(0), "users");
        is(0, x.user(11, 0), "parent of the 12th user");
        is(11, x.user(0, 2), "children of the root");
        is(90909, x.user(11, 3), "base tickets of one of eleven");
        refuses(STATE, "a 13th user", UsersBoundaryTest::twelveUsers, y -> y.addUser(0, 1));
        refuses(STATE, "a 13th user below a leaf", UsersBoundaryTest::twelveUsers, y -> y.addUser(11, 99));
        x.undo();
        is(11, x.addUser(0, 1), "the 12th user again");
    }

    private static void theRootIsAlwaysThere() {
        about("section 1: user 0 is the root, which is always there");
        ShareTickets x = new ShareTickets();
        is(1, x.count(0), "users of a new place");
        is(-1, x.user(0, 0), "parent of the root");
        is(0, x.user(0, 1), "shares of the root");
        is(0, x.user(0, 2), "children of the root alone");
        fails(INDEX, "a user beside the root", () -> x.user(1, 0));
        load(x, "user 0 1;");
        is(1, x.load(0), "load of an empty text");
        is(0, x.user(0, 2), "children of the root alone again");
        fails(INDEX, "a user beside the root", () -> x.user(1, 0));
    }

    private static void aParentHasALowerNumber() {
        about("section 1: Each other user has a parent (a user with a lower number)");
        ShareTickets x = new ShareTickets();
        fails(INDEX, "the new user itself as the parent", () -> x.addUser(1, 1));
        is(1, x.addUser(0, 1), "addUser");
        is(2, x.addUser(1, 1), "addUser below the latest one");
        fails(INDEX, "the new user itself as the parent", () -> x.addUser(3, 1));
        is(1, x.user(2, 0), "parent");
        tellsError(-3, 5, "user 1 1;");
        tellsError(-3, 14, "user 0 1;user 2 1;user 1 1;");
        is(3, load(x, "user 0 1;user 1 1;"), "the latest one as the parent");
    }

    private static void sharesAreOneToNinetyNine() {
        about("section 1: a number of shares (1 to 99)");
        ShareTickets x = new ShareTickets();
        is(1, x.addUser(0, 1), "addUser with 1");
        is(2, x.addUser(0, 99), "addUser with 99");
        is(10000, x.user(1, 3), "base tickets of 1 of 100");
        is(990000, x.user(2, 3), "base tickets of 99 of 100");
        is(1, x.setShares(1, 99), "setShares to 99");
        is(500000, x.user(1, 3), "base tickets of 99 of 198");
        is(99, x.setShares(2, 1), "setShares to 1");
        is(10000, x.user(2, 3), "base tickets of 1 of 100");
        int[] bad = {0, 100, -1, Integer.MIN_VALUE, Integer.MAX_VALUE};
        for (int shares : bad) {
            refuses(ARGUMENT, "addUser with shares " + shares, UsersBoundaryTest::twoLeaves, y -> y.addUser(1, shares));
            refuses(ARGUMENT, "setShares to " + shares, UsersBoundaryTest::twoLeaves, y -> y.setShares(1, shares));
        }
    }

    private static void baseTicketsAreRoundedDown() {
        about("section 1: times its shares, divided by the sum of the shares of all users with this parent, rounded down");
        ShareTickets x = place("user 0 1;user 0 5;user 1 4;user 1 1;");
        is(166666, x.user(1, 3), "1 of 6");
        is(833333, x.user(2, 3), "5 of 6");
        // 166666.67 times 4 / 5 would be 133333: what was rounded down is what is dealt further.
        is(133332, x.user(3, 3), "4 of 5 of that");
        is(33333, x.user(4, 3), "1 of 5 of that");
        ShareTickets chain = place("user 0 1;user 1 99;user 2 1;user 3 7;user 4 1;");
        is(1000000, chain.user(5, 3), "an only child of only children");
        is(1000000, chain.user(0, 3), "the root");
        ShareTickets thin = place("user 0 99;user 0 1;user 2 99;user 2 1;user 4 99;user 4 1;user 6 99;user 6 1;");
        is(100, thin.user(4, 3), "a hundredth of a hundredth");
        is(1, thin.user(6, 3), "a hundredth of that");
        is(0, thin.user(7, 3), "99 of 100 of one ticket");
        is(0, thin.user(8, 3), "1 of 100 of one ticket");
        is(0, thin.worth(8, 1), "worth without tickets");
    }

    private static void siblingsShareTheParentAlone() {
        about("section 1: its siblings are the other users with the same parent");
        ShareTickets x = place("user 0 1;user 0 1;user 1 1;user 1 1;user 2 1;");
        is(250000, x.user(3, 3), "one of two children of 1");
        is(500000, x.user(5, 3), "the only child of 2");
        x.addUser(2, 4);
        is(250000, x.user(3, 3), "cousins take nothing");
        is(100000, x.user(5, 3), "1 of 5");
        is(400000, x.user(6, 3), "4 of 5");
    }

    private static void onlyLeavesHaveJobs() {
        about("section 1: A user without children is a leaf; the root alone is one, too. Only leaves have jobs");
        ShareTickets x = new ShareTickets();
        is(0, x.submit(0, 1), "a job of the root alone");
        is(1000000, x.worth(0, 1), "worth of the root alone");
        is(0, x.ranked(0), "the root alone is a leaf");
        refuses(STATE, "a job of a root with a child", () -> place("user 0 1;"), y -> y.submit(0, 1));
        refuses(STATE, "a job of a user with a child", UsersBoundaryTest::threeBelowTheRoot, y -> y.submit(2, 1));
        ShareTickets z = threeBelowTheRoot();
        is(0, z.submit(1, 1), "a job of a leaf with siblings");
        is(1, z.submit(3, 1), "a job of the last user");
        is(0, load(z, "job 0 1;") == 1 ? 0 : 1, "load of a job of the root alone");
        tellsError(-3, 13, "user 0 1;job 0 1;");
        tellsError(-3, 22, "user 0 1;user 1 1;job 1 1;");
    }

    private static void atMostEightLoans() {
        about("section 1: There are at most 8 loans, numbered from 0 as they were made");
        ShareTickets x = twoLeaves();
        for (int loan = 0; loan < 8; loan++) {
            is(loan, x.lend(1 + loan % 2, 2 - loan % 2, 10 + loan, 2 + loan), "lend");
        }
        for (int loan = 0; loan < 8; loan++) {
            is(10 + loan, x.loan(loan, 2), "tickets of loan " + loan);
        }
        refuses(STATE, "a 9th loan", UsersBoundaryTest::eightLoans, y -> y.lend(1, 2, 1, 1));
        x.tick(3);
        fails(STATE, "a 9th loan before the first is gone", () -> x.lend(1, 2, 1, 1));
        x.tick(1);
        is(7, x.count(3), "loans when the first is gone");
        is(11, x.loan(0, 2), "the second is the first now");
        is(17, x.loan(6, 2), "the last one");
        fails(INDEX, "the number that is free", () -> x.loan(7, 2));
        is(7, x.lend(1, 2, 1, 1), "an 8th loan again");
    }

    private static void lentTicketsAreOneToHalfAMillion() {
        about("section 1: a number of tickets (1 to 500000)");
        ShareTickets x = place("user 0 99;user 0 1;");
        is(0, x.lend(1, 2, 500000, 1), "500000");
        is(1, x.lend(2, 1, 1, 1), "1");
        is(509999, x.user(2, 4), "tickets of the borrower");
        int[] bad = {0, 500001, -1, Integer.MIN_VALUE, Integer.MAX_VALUE};
        for (int tickets : bad) {
            refuses(ARGUMENT, "lend " + tickets, UsersBoundaryTest::twoLeaves, y -> y.lend(1, 2, tickets, 1));
        }
    }

    private static void loansAreOneToFiftyTicksLong() {
        about("section 1: a length (1 to 50 ticks)");
        ShareTickets x = twoLeaves();
        x.lend(1, 2, 7, 1);
        x.lend(1, 2, 9, 50);
        is(2, x.loan(0, 4), "end of the short one");
        is(100, x.loan(1, 4), "end of the long one");
        x.tick(49);
        is(0, x.loan(0, 3), "the long one is lent at 49");
        x.tick(1);
        is(1, x.loan(0, 3), "the long one is paid back at 50");
        x.tick(49);
        is(1, x.count(3), "the long one is there at 99");
        x.tick(1);
        is(0, x.count(3), "the long one is gone at 100");
        int[] bad = {0, 51, -1, Integer.MIN_VALUE, Integer.MAX_VALUE};
        for (int ticks : bad) {
            refuses(ARGUMENT, "lend for " + ticks, UsersBoundaryTest::twoLeaves, y -> y.lend(1, 2, 1, ticks));
        }
    }

    private static void loansAreLentPaidBackAndGone() {
        about("section 1: As long as the time is less than its beginning plus its length ..; then it is paid back ..");
        ShareTickets x = twoLeaves();
        x.tick(5);
        x.lend(1, 2, 1000, 2);
        int[] ofBorrower = {501000, 501000, 499000, 499000, 500000};
        int[] paidBack = {0, 0, 1, 1, -1};
        for (int tick = 0; tick < ofBorrower.length; tick++) {
            is(ofBorrower[tick], x.user(2, 4), "tickets of the borrower at " + (5 + tick));
            is(1000000 - ofBorrower[tick], x.user(1, 4), "tickets of the lender at " + (5 + tick));
            is(paidBack[tick] < 0 ? 0 : 1, x.count(3), "loans at " + (5 + tick));
            if (paidBack[tick] >= 0) {
                is(paidBack[tick], x.loan(0, 3), "whether it is paid back at " + (5 + tick));
                is(9, x.loan(0, 4), "its end");
            }
            x.tick(1);
        }
    }

    private static void loansThatEndTogetherAreGoneTogether() {
        about("section 1: when the time has come to that, the loan is gone (loans behind it get numbers lower by 1)");
        ShareTickets x = twoLeaves();
        x.lend(1, 2, 10, 2);
        x.lend(1, 2, 20, 9);
        x.lend(2, 1, 30, 2);
        x.lend(2, 1, 40, 9);
        x.tick(2);
        x.lend(1, 2, 50, 1);
        x.tick(1);
        is(5, x.count(3), "loans one tick before three of them end");
        x.tick(1);
        is(2, x.count(3), "loans");
        is(20, x.loan(0, 2), "the first one that is left");
        is(40, x.loan(1, 2), "the second one that is left");
        is(2, x.loan(1, 0), "its lender");
        is(1, x.loan(1, 1), "its borrower");
        is(18, x.loan(1, 4), "its end");
        x.lend(1, 2, 60, 2);
        x.tick(3);
        x.lend(1, 2, 70, 1);
        // Behind the loan that ends at 8 stands one that was made at another time than it.
        x.tick(1);
        is(3, x.count(3), "loans when that of 60 is gone");
        is(70, x.loan(2, 2), "the one behind it");
        is(1, x.loan(2, 3), "it is paid back from 8 on");
        is(9, x.loan(2, 4), "its end");
    }

    private static void ticketsAreAtLeastNull() {
        about("section 1: plus and minus those of loans (also of several), but at least 0");
        ShareTickets x = place("user 0 1;user 0 1;user 0 2;");
        x.lend(1, 2, 250000, 5);
        is(0, x.user(1, 4), "all tickets lent");
        x.setShares(1, 2);
        // 400000, 200000, 400000 now.
        is(150000, x.user(1, 4), "lent from more");
        x.setShares(1, 1);
        x.setShares(3, 97);
        // 10101, 10101 and 979797 now, so that user 1 has lent more than it has.
        is(10101, x.user(1, 3), "base tickets");
        is(0, x.user(1, 4), "at least 0");
        is(0, x.worth(1, 1), "worth");
        is(260101, x.user(2, 4), "the borrower has all of them nevertheless");
        x.lend(3, 1, 239898, 5);
        is(0, x.user(1, 4), "239899 below 0 and 239898 more");
        x.lend(3, 1, 2, 5);
        is(1, x.user(1, 4), "the sum, not each of several, is cut at 0");
        fails(STATE, "more than the tickets of the lender", () -> x.lend(1, 3, 2, 1));
        is(3, x.lend(1, 3, 1, 1), "all of them");
        is(0, x.user(1, 4), "none are left");
        fails(STATE, "one of none", () -> x.lend(1, 3, 1, 1));
    }

    private static void countKnowsNullToTwelve() {
        about("promise 5: for any other what");
        int[] bad = {-1, 13, Integer.MIN_VALUE, Integer.MAX_VALUE};
        for (int what : bad) {
            refuses(ARGUMENT, "count " + what, UsersBoundaryTest::eightLoans, y -> y.count(what));
        }
        int[] empty = {1, 0, 0, 0, 0, 10, 50, 5, 0, 0, 0, 0, 0};
        ShareTickets x = new ShareTickets();
        for (int what = 0; what <= 12; what++) {
            is(empty[what], x.count(what), "count of nothing " + what);
        }
        ShareTickets y = place("user 0 1;".repeat(11) + "machine 4;".repeat(6) + "half 50;margin 400;check 20;"
            + "job 1 9;".repeat(30));
        for (int loan = 0; loan < 8; loan++) {
            y.lend(2, 3, 1, 9);
        }
        int[] full = {12, 6, 30, 8, 0, 50, 400, 20, 6, 24, 0, 0, 0};
        for (int what = 0; what <= 12; what++) {
            is(full[what], y.count(what), "count of everything " + what);
        }
    }

    private static void countsFreeSlotsOfMachinesThatAreUp() {
        about("promise 5: 10: free slots of machines that are up");
        ShareTickets x = place("machine 4;machine 1;machine 2;");
        is(7, x.count(10), "free slots");
        x.setUp(0, false);
        is(3, x.count(10), "free slots with one down");
        x.submit(0, 5);
        is(2, x.count(10), "free slots with one job");
        x.setUp(1, false);
        is(1, x.count(10), "its job runs on the other one");
        x.setUp(2, false);
        is(0, x.count(10), "all down");
    }

    private static void countsInterruptionsByPreemptionAndSetUp() {
        about("promise 5: 11: how often jobs were interrupted so far (by preemption or setUp); 12: the work done that was lost");
        ShareTickets x = place("user 0 1;user 0 1;machine 1;margin 0;check 4;job 1 60;job 2 60;");
        x.tick(1);
        is(1, x.count(11), "by preemption");
        is(1, x.count(12), "work lost by preemption");
        x.setUp(0, false);
        is(2, x.count(11), "by setUp, too");
        is(1, x.count(12), "no work was done");
        x.setUp(0, true);
        x.cancel(x.machine(0, 3));
        is(2, x.count(11), "not by cancel");
        load(x, "user 0 1;");
        is(0, x.count(11), "none after load");
        is(0, x.count(12), "no work lost after load");
    }

    private static void userKnowsNullToSeven() {
        about("promise 6: for any other what; if the user does not exist");
        int[] bad = {-1, 8, Integer.MIN_VALUE, Integer.MAX_VALUE};
        for (int what : bad) {
            refuses(ARGUMENT, "user 0 " + what, UsersBoundaryTest::eightLoans, y -> y.user(0, what));
        }
        int[] none = {-1, 3, Integer.MIN_VALUE, Integer.MAX_VALUE};
        for (int user : none) {
            refuses(INDEX, "user " + user, UsersBoundaryTest::eightLoans, y -> y.user(user, 0));
            refuses(INDEX, "user " + user + " with a wrong what", UsersBoundaryTest::eightLoans, y -> y.user(user, 8));
        }
        ShareTickets x = eightLoans();
        int[] ofTheLast = {0, 1, 0, 500000, 500008, 0, 0, 0};
        for (int what = 0; what <= 7; what++) {
            is(ofTheLast[what], x.user(2, what), "the last user " + what);
        }
        ShareTickets y = twelveUsers();
        is(0, y.user(11, 2), "the 12th user");
        fails(INDEX, "a 13th user", () -> y.user(12, 0));
    }

    private static void usersThatAreNoLeavesAreSums() {
        about("promise 6: if it is no leaf, the sum of .. all leaves below it");
        ShareTickets x = place("user 0 1;user 1 1;user 2 1;user 2 1;user 0 1;machine 4;job 3 9;job 4 9;job 4 9;job 5 9;job 5 9;job 3 9;");
        // Worths 500000 of user 5, 250000 of 3 and 4: 5 runs 3 and 4, then 0, 1 of the others.
        shows("0,1,3,4", x, "at first");
        x.tick(1);
        int[] use = {4000, 2000, 2000, 1000, 1000, 2000};
        int[] load = {4, 2, 2, 1, 1, 2};
        int[] waiting = {2, 2, 2, 1, 1, 0};
        for (int user = 0; user < 6; user++) {
            is(use[user], x.user(user, 5), "use of " + user);
            is(load[user], x.user(user, 6), "load of " + user);
            is(waiting[user], x.user(user, 7), "waiting jobs of " + user);
        }
        x.lend(3, 5, 1000, 2);
        is(500000, x.user(2, 4), "tickets of one that is no leaf are its base tickets");
        is(1000000, x.user(0, 4), "tickets of the root are its base tickets");
    }

    private static void aParentMayHaveNoJobs() {
        about("promise 7: or the parent has jobs (whatever their state is)");
        String text = "user 0 1;user 0 1;machine 1;";
        Recipe waiting = () -> {
            ShareTickets x = place(text);
            x.submit(2, 9);
            x.submit(1, 9);
            return x;
        };
        refuses(STATE, "a parent with a running job", waiting, y -> y.addUser(2, 1));
        refuses(STATE, "a parent with a waiting job", waiting, y -> y.addUser(1, 1));
        Recipe over = () -> {
            ShareTickets x = place(text);
            x.submit(2, 1);
            x.submit(1, 1);
            x.cancel(1);
            x.tick(1);
            return x;
        };
        refuses(STATE, "a parent with a finished job", over, y -> y.addUser(2, 1));
        refuses(STATE, "a parent with a cancelled job", over, y -> y.addUser(1, 1));
        refuses(STATE, "the root with a job", () -> place("job 0 1;"), y -> y.addUser(0, 1));
        ShareTickets x = over.make();
        is(3, x.addUser(0, 1), "a parent whose children have jobs");
        is(4, x.addUser(3, 1), "a parent without jobs");
    }

    private static void aParentMayHaveNoLoan() {
        about("promise 7: or takes part in a loan");
        Recipe lent = () -> {
            ShareTickets x = place("user 0 1;user 0 1;user 0 1;");
            x.lend(1, 2, 5, 1);
            return x;
        };
        Recipe paidBack = () -> {
            ShareTickets x = lent.make();
            x.tick(1);
            return x;
        };
        for (int user = 1; user <= 2; user++) {
            int parent = user;
            refuses(STATE, "a parent with a loan", lent, y -> y.addUser(parent, 1));
            refuses(STATE, "a parent with a loan that is paid back", paidBack, y -> y.addUser(parent, 1));
        }
        ShareTickets x = paidBack.make();
        is(4, x.addUser(3, 1), "a parent beside the loan");
        is(5, x.addUser(0, 1), "the parent of both");
        x.tick(1);
        is(6, x.addUser(1, 1), "the lender when the loan is gone");
        is(7, x.addUser(2, 1), "the borrower when the loan is gone");
    }

    private static void addUserNeedsAParent() {
        about("promise 7: IndexOutOfBoundsException if the parent does not exist, first of several");
        int[] none = {-1, 4, Integer.MIN_VALUE, Integer.MAX_VALUE};
        for (int parent : none) {
            refuses(INDEX, "parent " + parent, UsersBoundaryTest::threeBelowTheRoot, y -> y.addUser(parent, 1));
            refuses(INDEX, "parent and shares", UsersBoundaryTest::threeBelowTheRoot, y -> y.addUser(parent, 0));
        }
        refuses(INDEX, "parent 12 and a 13th user", UsersBoundaryTest::twelveUsers, y -> y.addUser(12, 0));
        refuses(ARGUMENT, "shares and a 13th user", UsersBoundaryTest::twelveUsers, y -> y.addUser(0, 100));
        refuses(ARGUMENT, "shares and a parent with a loan", UsersBoundaryTest::eightLoans, y -> y.addUser(1, 0));
    }

    private static void setSharesNeedsAUserBelowTheRoot() {
        about("promise 8: if the user does not exist; if shares is out of range, or the user is the root");
        int[] none = {-1, 4, Integer.MIN_VALUE, Integer.MAX_VALUE};
        for (int user : none) {
            refuses(INDEX, "user " + user, UsersBoundaryTest::threeBelowTheRoot, y -> y.setShares(user, 1));
            refuses(INDEX, "user and shares", UsersBoundaryTest::threeBelowTheRoot, y -> y.setShares(user, 100));
        }
        refuses(ARGUMENT, "the root", UsersBoundaryTest::threeBelowTheRoot, y -> y.setShares(0, 1));
        refuses(ARGUMENT, "the root alone", ShareTickets::new, y -> y.setShares(0, 99));
        refuses(ARGUMENT, "the root and shares", UsersBoundaryTest::threeBelowTheRoot, y -> y.setShares(0, 0));
        ShareTickets x = threeBelowTheRoot();
        is(1, x.setShares(3, 50), "the last user");
        is(50, x.user(3, 1), "its shares");
        is(1, x.setShares(1, 3), "the first user below the root");
        is(750000, x.user(1, 3), "its base tickets");
        is(250000, x.user(3, 3), "those of a child of its sibling");
    }

    private static void lendNeedsTwoUsers() {
        about("promise 9: if one of both users does not exist; if both are the same, or tickets or ticks is out of range");
        int[] none = {-1, 3, Integer.MIN_VALUE, Integer.MAX_VALUE};
        for (int user : none) {
            refuses(INDEX, "from " + user, UsersBoundaryTest::twoLeaves, y -> y.lend(user, 2, 1, 1));
            refuses(INDEX, "to " + user, UsersBoundaryTest::twoLeaves, y -> y.lend(1, user, 1, 1));
            refuses(INDEX, "both " + user, UsersBoundaryTest::twoLeaves, y -> y.lend(user, user, 0, 51));
            refuses(INDEX, "to " + user + " of 9 loans", UsersBoundaryTest::eightLoans, y -> y.lend(0, user, 500001, 0));
        }
        refuses(ARGUMENT, "both the same", UsersBoundaryTest::twoLeaves, y -> y.lend(2, 2, 1, 1));
        refuses(ARGUMENT, "both the same, no leaf", UsersBoundaryTest::twoLeaves, y -> y.lend(0, 0, 1, 1));
        refuses(ARGUMENT, "both the root alone", ShareTickets::new, y -> y.lend(0, 0, 1, 1));
        refuses(ARGUMENT, "tickets, and the lender no leaf", UsersBoundaryTest::twoLeaves, y -> y.lend(0, 1, 0, 1));
        refuses(ARGUMENT, "ticks, and the borrower no leaf", UsersBoundaryTest::twoLeaves, y -> y.lend(1, 0, 1, 51));
        refuses(ARGUMENT, "ticks, and a 9th loan", UsersBoundaryTest::eightLoans, y -> y.lend(1, 2, 1, 0));
    }

    private static void lendNeedsLeavesAndTickets() {
        about("promise 9: if one of both is no leaf, there are 8 loans, or tickets is greater than the tickets of the lender");
        Recipe nested = UsersBoundaryTest::threeBelowTheRoot;
        refuses(STATE, "from no leaf", nested, y -> y.lend(2, 1, 1, 1));
        refuses(STATE, "from the root", nested, y -> y.lend(0, 1, 1, 1));
        refuses(STATE, "to no leaf", nested, y -> y.lend(1, 2, 1, 1));
        refuses(STATE, "to the root", nested, y -> y.lend(3, 0, 1, 1));
        Recipe thirds = () -> place("user 0 1;user 0 1;user 0 1;");
        refuses(STATE, "one more than the lender has", thirds, y -> y.lend(1, 2, 333334, 1));
        ShareTickets x = thirds.make();
        is(0, x.lend(1, 2, 333333, 1), "all that the lender has");
        fails(STATE, "one of none", () -> x.lend(1, 3, 1, 1));
        is(1, x.lend(2, 3, 500000, 1), "borrowed ones, too");
        fails(STATE, "one more than are left", () -> x.lend(2, 3, 166667, 1));
        is(2, x.lend(2, 3, 166666, 1), "all that are left");
        is(0, x.user(2, 4), "tickets");
        is(999999, x.user(3, 4), "tickets");
    }

    private static void loanKnowsNullToFour() {
        about("promise 10: for any other what; if the loan does not exist");
        int[] bad = {-1, 5, Integer.MIN_VALUE, Integer.MAX_VALUE};
        for (int what : bad) {
            refuses(ARGUMENT, "loan 7 " + what, UsersBoundaryTest::eightLoans, y -> y.loan(7, what));
        }
        int[] none = {-1, 8, Integer.MIN_VALUE, Integer.MAX_VALUE};
        for (int loan : none) {
            refuses(INDEX, "loan " + loan, UsersBoundaryTest::eightLoans, y -> y.loan(loan, 0));
            refuses(INDEX, "loan and what", UsersBoundaryTest::eightLoans, y -> y.loan(loan, 5));
        }
        refuses(INDEX, "loan 0 of none", UsersBoundaryTest::twoLeaves, y -> y.loan(0, 0));
        ShareTickets x = eightLoans();
        int[] last = {1, 2, 1, 0, 24};
        for (int what = 0; what <= 4; what++) {
            is(last[what], x.loan(7, what), "the 8th loan " + what);
        }
    }

    private static void balanceCountsTheTicksThatAreLeft() {
        about("promise 11: the ticks that are left of the time for which it is lent and of that for which it is paid back");
        ShareTickets x = twoLeaves();
        is(0, x.balance(1), "without loans");
        x.lend(1, 2, 500000, 50);
        int[] at = {0, 1, 49, 50, 51, 99, 100};
        int[] ofLender = {0, 500000, 24500000, 25000000, 24500000, 500000, 0};
        for (int i = 0; i < at.length; i++) {
            if (at[i] > x.count(4)) {
                x.tick(at[i] - x.count(4));
            }
            is(ofLender[i], x.balance(1), "balance of the lender at " + at[i]);
            is(-ofLender[i], x.balance(2), "balance of the borrower at " + at[i]);
            is(0, x.balance(0), "balance of one that is no leaf");
        }
    }

    private static void balanceAddsAllLoans() {
        about("promise 11: what a leaf will have from all loans together");
        ShareTickets x = place("user 0 98;user 0 1;user 0 1;");
        for (int loan = 0; loan < 8; loan++) {
            x.lend(loan % 2 == 0 ? 1 : 2, loan % 2 == 0 ? 2 : 3, loan % 2 == 0 ? 200000 : 10000, 50);
        }
        x.tick(50);
        is(4 * 200000 * 50, x.balance(1), "the lender of four");
        is(-4 * 190000 * 50, x.balance(2), "the borrower of four and lender of four");
        is(-4 * 10000 * 50, x.balance(3), "the borrower of four");
        int[] none = {-1, 3, Integer.MIN_VALUE, Integer.MAX_VALUE};
        for (int user : none) {
            refuses(INDEX, "user " + user, UsersBoundaryTest::eightLoans, y -> y.balance(user));
        }
    }

    private static void rankedKnowsAsManyPlacesAsLeaves() {
        about("promise 12: if there are not so many leaves; of equal ones the lowest number first");
        ShareTickets alone = new ShareTickets();
        is(0, alone.ranked(0), "the root alone");
        fails(INDEX, "a second leaf beside the root", () -> alone.ranked(1));
        ShareTickets x = twelveUsers();
        for (int place = 0; place < 11; place++) {
            is(place + 1, x.ranked(place), "equal ones at place " + place);
        }
        int[] none = {-1, 11, Integer.MIN_VALUE, Integer.MAX_VALUE};
        for (int place : none) {
            refuses(INDEX, "place " + place, UsersBoundaryTest::twelveUsers, y -> y.ranked(place));
        }
        x.lend(7, 11, 1, 5);
        is(11, x.ranked(0), "one ticket more");
        is(1, x.ranked(1), "the equal ones behind it");
        is(7, x.ranked(10), "one ticket fewer");
    }

    private static void rankedTakesTheNextJob() {
        about("promise 12: the worths that the next job of each leaf would have (k = its load plus 1)");
        ShareTickets x = place("user 0 2;user 0 1;machine 1;job 1 9;job 1 9;");
        // 666666 / 2 and 333333: equal, so the lowest number is first though it has a job that runs.
        is(1, x.ranked(0), "equal ones");
        x.lend(1, 2, 2, 1);
        is(2, x.ranked(0), "666664 / 2 against 333335");
        is(1, x.ranked(1), "the other one");
    }

    private static void worthTakesOneToThirty() {
        about("promise 13: k: 1 to 30");
        ShareTickets x = twoLeaves();
        is(500000, x.worth(1, 1), "k = 1");
        is(16666, x.worth(1, 30), "k = 30, rounded down");
        is(17241, x.worth(1, 29), "k = 29");
        int[] bad = {0, 31, -1, Integer.MIN_VALUE, Integer.MAX_VALUE};
        for (int k : bad) {
            refuses(ARGUMENT, "k = " + k, UsersBoundaryTest::twoLeaves, y -> y.worth(1, k));
            refuses(ARGUMENT, "k of one that is no leaf", UsersBoundaryTest::twoLeaves, y -> y.worth(0, k));
        }
        int[] none = {-1, 3, Integer.MIN_VALUE, Integer.MAX_VALUE};
        for (int user : none) {
            refuses(INDEX, "user " + user, UsersBoundaryTest::twoLeaves, y -> y.worth(user, 1));
            refuses(INDEX, "user and k", UsersBoundaryTest::twoLeaves, y -> y.worth(user, 31));
        }
        refuses(STATE, "no leaf", UsersBoundaryTest::threeBelowTheRoot, y -> y.worth(2, 1));
        refuses(STATE, "the root with children", UsersBoundaryTest::threeBelowTheRoot, y -> y.worth(0, 30));
    }

    private static void worthIsDividedByTheUse() {
        about("section 2: its tickets times 1000, divided by ((1000 plus its use) times k), rounded down");
        ShareTickets x = place("user 0 1;user 0 1;machine 4;half 50;job 1 60;job 1 60;");
        x.tick(1);
        is(166666, x.worth(1, 1), "a use of 2000");
        // (1000 + 2000) times 7 is divided once: 500000000 / 21000.
        is(23809, x.worth(1, 7), "a use of 2000 and k = 7");
        x.tick(59);
        is(70000, x.user(1, 5), "100000 halved at 50, and 20000 more");
        is(7042, x.worth(1, 1), "500000000 / 71000");
    }

    public static void main(String[] args) {
        atMostTwelveUsers();
        theRootIsAlwaysThere();
        aParentHasALowerNumber();
        sharesAreOneToNinetyNine();
        baseTicketsAreRoundedDown();
        siblingsShareTheParentAlone();
        onlyLeavesHaveJobs();
        atMostEightLoans();
        lentTicketsAreOneToHalfAMillion();
        loansAreOneToFiftyTicksLong();
        loansAreLentPaidBackAndGone();
        loansThatEndTogetherAreGoneTogether();
        ticketsAreAtLeastNull();
        countKnowsNullToTwelve();
        countsFreeSlotsOfMachinesThatAreUp();
        countsInterruptionsByPreemptionAndSetUp();
        userKnowsNullToSeven();
        usersThatAreNoLeavesAreSums();
        aParentMayHaveNoJobs();
        aParentMayHaveNoLoan();
        addUserNeedsAParent();
        setSharesNeedsAUserBelowTheRoot();
        lendNeedsTwoUsers();
        lendNeedsLeavesAndTickets();
        loanKnowsNullToFour();
        balanceCountsTheTicksThatAreLeft();
        balanceAddsAllLoans();
        rankedKnowsAsManyPlacesAsLeaves();
        rankedTakesTheNextJob();
        worthTakesOneToThirty();
        worthIsDividedByTheUse();
        end("section 1 and promises 5 to 13 hold at their boundaries");
    }
}
