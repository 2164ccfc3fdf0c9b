/** Section 5 of the document's terms and promises 1 to 4, 27 and 28: a method for each sentence that names a boundary. */
public final class TextBoundaryTest extends Checks {
    private static final String TWELVE_USERS = "user 0 1;".repeat(11);
    private static final String SIX_MACHINES = "machine 1;".repeat(6);
    private static final String THIRTY_JOBS = "job 0 1;".repeat(30);

    private static ShareTickets fullBuffer() {
        ShareTickets x = place("user 0 1;machine 1;job 1 9;");
        append(x, "half 10;".repeat(75));
        return x;
    }

    private static ShareTickets twentyBytes() {
        ShareTickets x = place("user 0 1;machine 1;job 1 9;");
        load(x, "user 0 1");
        append(x, "half 10;half 20;nine");
        return x;
    }

    private static void takes(String text) {
        ShareTickets x = new ShareTickets();
        is(1, load(x, text) > 0 ? 1 : 0, "load of " + text);
        is(-1, x.errorPosition(), "position of no error in " + text);
    }

    private static void aNewObjectIsEmpty() {
        about("promise 1: the root alone, without machines, jobs and loans, at the time 0 .. and an empty text buffer");
        ShareTickets x = new ShareTickets();
        int[] due = {1, 0, 0, 0, 0, 10, 50, 5, 0, 0, 0, 0, 0};
        for (int what = 0; what <= 12; what++) {
            is(due[what], x.count(what), "count " + what);
        }
        fails(ARGUMENT, "the buffer is empty", () -> x.load(1));
        fails(STATE, "nothing was changed", () -> x.undo());
        fails(INDEX, "nothing was written", () -> x.writtenByte(0));
        is(-1, x.errorPosition(), "nothing was loaded");
        is(0, x.writeMachines(), "no machine");
        is(0, x.user(0, 5), "use");
        is(1, x.load(0), "load of nothing");
    }

    private static void theBufferTakesSixHundredBytes() {
        about("promise 2: if the length would exceed 600");
        ShareTickets x = new ShareTickets();
        for (int i = 1; i <= 30; i++) {
            is(20 * i, x.append(SPACES, SPACES, SPACES, SPACES, SPACES), "append number " + i);
        }
        fails(STATE, "append number 31", () -> x.append(SPACES, SPACES, SPACES, SPACES, SPACES));
        refuses(STATE, "append to a full buffer", TextBoundaryTest::fullBuffer, y -> y.append(0, 0, 0, 0, 0));
        is(1, fullBuffer().load(600), "what stood in it is read");
        x.load(600);
        is(20, x.append(0, 0, 0, 0, 0), "append after load");
    }

    private static void bytesComeInTheirOrder() {
        about("promise 2: the four bytes of each argument in order, the most significant byte first");
        ShareTickets x = new ShareTickets();
        x.append(0x6d616368, 0x696e6520, 0x343b6a6f, 0x62203020, 0x3630303b);
        is(-3, x.load(20), "machine 4;job 0 600;");
        is(16, x.errorPosition(), "position of 600");
        x.append(0x6d616368, 0x696e6520, 0x343b6a6f, 0x62203020, 0x36303b20);
        is(1, x.load(20), "machine 4;job 0 60; ");
        is(60, x.job(0, 1), "length");
        for (int at = 0; at < 20; at++) {
            int[] words = {SPACES, SPACES, SPACES, SPACES, SPACES};
            words[at / 4] ^= 0x80000000 >>> 8 * (at % 4);
            x.append(words[0], words[1], words[2], words[3], words[4]);
            is(-2, x.load(20), "a byte 160 at " + at);
            is(at, x.errorPosition(), "its position");
        }
    }

    private static void lengthIsNoGreaterThanTheBuffer() {
        about("promise 3: number of bytes, 0 to the length of the buffer");
        int[] bad = {-1, 21, 600, Integer.MIN_VALUE, Integer.MAX_VALUE};
        for (int length : bad) {
            refuses(ARGUMENT, "load " + length, TextBoundaryTest::twentyBytes, y -> y.load(length));
        }
        refuses(ARGUMENT, "load 601", TextBoundaryTest::fullBuffer, y -> y.load(601));
        refuses(ARGUMENT, "load 1 of an empty buffer", ShareTickets::new, y -> y.load(1));
        is(-2, twentyBytes().load(20), "all of it");
        is(1, twentyBytes().load(16), "the first bytes");
        is(1, twentyBytes().load(0), "none of it");
        is(1, fullBuffer().load(600), "600 bytes");
        is(-2, fullBuffer().load(599), "599 bytes");
    }

    private static void theBufferIsEmptyAfterwards() {
        about("promise 3: The buffer is empty afterwards in both cases");
        int[] lengths = {0, 8, 16, 17, 20};
        for (int length : lengths) {
            ShareTickets x = twentyBytes();
            x.load(length);
            fails(ARGUMENT, "load 1 after load " + length, () -> x.load(1));
            is(20, x.append(0, 0, 0, 0, 0), "append after load " + length);
        }
    }

    private static void aTextWithAnErrorLeavesThePlace() {
        about("promise 3: in case of an error the present one stays");
        ShareTickets x = place("user 0 2;user 0 1;machine 2;machine 1;half 7;job 1 9;job 2 9;job 1 4;job 1 4;");
        x.tick(2);
        x.lend(1, 2, 5, 9);
        x.setUp(1, false);
        int[] due = new int[13];
        for (int what = 0; what <= 12; what++) {
            due[what] = x.count(what);
        }
        String[] texts = {"user 0 1;machine 1;half 5;job 1 5;u", "half 1;half 0;", SIX_MACHINES + "machine 1;"};
        int[] codes = {-2, -3, -4};
        for (int i = 0; i < texts.length; i++) {
            is(codes[i], load(x, texts[i]), "load");
            for (int what = 0; what <= 12; what++) {
                is(due[what], x.count(what), "count " + what);
            }
            is(666666, x.user(1, 3), "base tickets");
            shows("0,1 x", x, "the place after an error");
        }
        is(3, x.undo(), "undo of setUp");
        shows("0,1 2", x, "the place after undo");
    }

    private static void aTextReplacesThePlace() {
        about("promise 3: it replaces the present one (the time and all counts are 0, there are no loans)");
        ShareTickets x = place("user 0 2;user 0 1;machine 2;machine 1;half 7;margin 0;check 1;job 1 9;job 2 9;job 1 4;job 1 4;");
        x.tick(9);
        x.lend(1, 2, 5, 9);
        x.setUp(1, false);
        is(2, load(x, "user 0 1;machine 1;machine 1;job 1 2;"), "load");
        int[] due = {2, 2, 1, 0, 0, 10, 50, 5, 0, 1, 1, 0, 0};
        for (int what = 0; what <= 12; what++) {
            is(due[what], x.count(what), "count " + what);
        }
        is(0, x.user(1, 5), "use");
        is(1, x.machine(1, 1), "a machine is up as at first");
        is(0, x.job(0, 6), "ticks waited");
        is(-1, x.job(0, 5), "the time of its end");
        is(1000000, x.user(1, 4), "tickets");
    }

    private static void aTextReplacesWhatWasThoughtOf() {
        about("promise 3: it replaces the present one, and nothing that a prediction went through is left");
        String text = "user 0 1;user 0 1;machine 1;margin 0;check 20;job 1 9;job 2 9;job 1 4;";
        ShareTickets x = place(text);
        x.lend(1, 2, 5, 50);
        x.tick(3);
        is(1, x.ahead(9, 2) > 0 ? 1 : 0, "interruptions in thought");
        is(3, load(x, text), "load behind a prediction");
        for (int user = 0; user <= 2; user++) {
            is(0, x.user(user, 5), "use of " + user);
        }
        is(0, x.count(3), "loans");
        is(0, x.count(4), "time");
        is(0, x.count(11), "interruptions");
        is(0, x.count(12), "work lost");
        shows("0", x, "the machine");
        int[][] due = {{1, 9, 0, 1, 0, -1, 0}, {2, 9, 0, 0, -1, -1, 0}, {1, 4, 0, 0, -1, -1, 0}};
        for (int job = 0; job <= 2; job++) {
            for (int what = 0; what <= 6; what++) {
                is(due[job][what], x.job(job, what), "job " + job + " " + what);
            }
        }
        ShareTickets alone = place("machine 1;job 0 9;");
        is(0, alone.ahead(8, 0), "finished jobs in thought");
        is(1, alone.load(0), "load of nothing behind a prediction");
        is(0, alone.user(0, 5), "use of the root alone");
        load(alone, "machine 1;job 0 9;");
        is(0, alone.ahead(8, 1), "waiting jobs in thought");
        load(alone, "job 0 9;");
        is(0, alone.job(0, 2), "work done of a job behind a prediction");
        ShareTickets undone = place(text);
        undone.tick(5);
        undone.undo();
        undone.undo();
        undone.addUser(0, 1);
        undone.addUser(0, 1);
        undone.submit(1, 9);
        is(0, undone.user(1, 5), "use of a new user behind undo");
        is(0, undone.job(0, 2), "work done of a new job behind undo");
        is(0, undone.job(0, 6), "ticks waited of a new job behind undo");
        is(0, undone.job(0, 3), "state of a new job behind undo");
    }

    private static void emptyTextsAreTexts() {
        about("section 5: text = { statement \";\" } (an empty text)");
        ShareTickets x = place("user 0 1;machine 1;job 1 9;");
        is(1, x.load(0), "load of an empty text");
        is(-1, x.errorPosition(), "position");
        is(0, x.count(1) + x.count(2), "machines and jobs");
        is(1, x.undo(), "it is a change");
        is(1, x.count(2), "jobs");
        takes(" ");
        takes(" ".repeat(600));
        tellsError(-2, 599, " ".repeat(599) + ";");
    }

    private static void aTextHasAtMostSixHundredBytes() {
        about("section 5: A place is read from a text of at most 600 bytes");
        takes("half 10;".repeat(75));
        is(12, load(new ShareTickets(), TWELVE_USERS + "half 1;".repeat(71) + "    "), "600 bytes");
        tellsError(-2, 600, "half 10;".repeat(74) + "half 10 ");
        tellsError(-2, 599, "half 10;".repeat(74) + "half 10.");
        tellsError(-3, 597, "half 10;".repeat(74) + "half 51;");
        ShareTickets x = place(THIRTY_JOBS + SIX_MACHINES + "check 7;".repeat(25) + " ".repeat(100));
        is(30, x.count(2), "jobs");
        is(7, x.count(7), "checkpoint");
    }

    private static void anUnexpectedEndIsAtTheLength() {
        about("section 5: or an unexpected end of the text (at the length of the text)");
        String[] statements = {"user 0 1;", "machine 1;", "job 0 1;", "half 1;", "margin 1;", "check 1;"};
        for (String statement : statements) {
            for (int length = 1; length < statement.length(); length++) {
                String text = statement.substring(0, length);
                boolean wordIsCut = statement.indexOf(' ') > length;
                tellsError(-2, wordIsCut ? 0 : length, text);
                tellsError(-2, wordIsCut ? 0 : length + 2, text + "  ");
                tellsError(-2, wordIsCut ? 9 : 9 + length, "half 10; " + text);
            }
            takes(statement);
            takes(statement + "  ");
        }
        ShareTickets x = new ShareTickets();
        append(x, "user 0 1;");
        is(-2, x.load(8), "load of the first 8 bytes");
        is(8, x.errorPosition(), "the length of the text, not of the buffer");
    }

    private static boolean isLetter(int sign) {
        return sign >= 'a' && sign <= 'z';
    }

    private static boolean isDigit(int sign) {
        return sign >= '0' && sign <= '9';
    }

    private static void bytesThatAreNotAllowed() {
        about("section 5: SYNTAX_ERROR: a byte or token that is not allowed here (at its first byte)");
        for (int sign = 0; sign <= 255; sign++) {
            String c = String.valueOf((char) sign);
            if (sign == ' ') {
                takes(" half 1;half 1 ; user 0 1;");
                continue;
            }
            tellsError(-2, 0, c + "half 1;");
            tellsError(-2, 7, "half 1;" + c);
            if (isLetter(sign)) {
                tellsError(-2, 0, "half" + c + " 1;");
            } else if (!isDigit(sign)) {
                tellsError(-2, 4, "half" + c + "1;");
            }
            if (isDigit(sign)) {
                takes("half 1" + c + ";");
                tellsError(-3, 5, "user 0" + c + "1;");
            } else if (sign != ';') {
                tellsError(-2, 6, "half 1" + c + ";");
                tellsError(-2, 6, "user 0" + c + "1;");
                tellsError(-2, 6, "half 1" + c);
            }
        }
    }

    private static void tokensThatAreNotAllowed() {
        about("section 5: SYNTAX_ERROR: a .. token that is not allowed here (at its first byte)");
        tellsError(-2, 0, ";");
        tellsError(-2, 2, "  ;");
        tellsError(-2, 7, "half 1;;");
        tellsError(-2, 8, "half 1; ;");
        tellsError(-2, 0, "1 half 1;");
        tellsError(-2, 0, "a;");
        tellsError(-2, 5, "half ;");
        tellsError(-2, 7, "user 0 ;");
        tellsError(-2, 7, "half 1 2;");
        tellsError(-2, 9, "user 0 1 2;");
        tellsError(-2, 5, "user user 0 1;");
        tellsError(-2, 7, "user 0 user 0 1;");
        tellsError(-2, 7, "half 1 half 2;");
        tellsError(-2, 9, "half   1 x;");
        tellsError(-2, 5, "half -1;");
        tellsError(-2, 5, "half +1;");
        tellsError(-2, 6, "half 1.5;");
    }

    private static void wordsAreTheLongestPossible() {
        about("section 5: A word is the longest possible sequence of the letters a to z");
        String[] words = {"user", "machine", "job", "half", "margin", "check"};
        for (String word : words) {
            String numbers = word.equals("user") || word.equals("job") ? " 0 1;" : " 1;";
            takes(word + numbers);
            takes(word + numbers.substring(1));
            tellsError(-2, 0, word + "a" + numbers);
            tellsError(-2, 0, "z" + word + numbers);
            tellsError(-2, 0, word + word + numbers);
            tellsError(-2, 0, word.substring(1) + numbers);
            tellsError(-2, 0, word.substring(0, word.length() - 1) + numbers);
            tellsError(-2, 0, word.substring(0, 1) + " " + word.substring(1) + numbers);
            tellsError(-2, 0, Character.toUpperCase(word.charAt(0)) + word.substring(1) + numbers);
            for (int i = 0; i < word.length(); i++) {
                tellsError(-2, 0, word.substring(0, i) + "x" + word.substring(i + 1) + numbers);
            }
        }
        takes("user0 1;user0 2;machine1;half1;margin1;check1;job1 1;");
        tellsError(-2, 8, "machine machine 1;");
        tellsError(-2, 9, "machine 1machine 1;");
    }

    private static void numbersAreTheLongestPossible() {
        about("section 5: N is the longest possible sequence of digits");
        ShareTickets x = place("user 000 0099;half " + "0".repeat(500) + "50;");
        is(99, x.user(1, 1), "shares with zeros in front");
        is(50, x.count(5), "half-life with 500 zeros in front");
        tellsError(-3, 5, "user 01;");
        String[] huge = {"51", "100", "999", "1000", "10000", "10001", "99999", "65537", "2147483648", "4294967297",
            "18446744073709551617", "1" + "0".repeat(300), "9".repeat(500)};
        for (String number : huge) {
            tellsError(-3, 5, "half " + number + ";");
            tellsError(-3, 7, "half   " + number);
            tellsError(-3, 5, "half 00" + number + ";");
        }
    }

    private static void spacesMayStandInFrontOfTokens() {
        about("section 5: Spaces (byte 32) may stand in front of every token and at the end of the text");
        takes("user 0 1;machine 1;job 1 5;half 5;margin 5;check 5;");
        takes("   user   0   1   ;   machine   1   ;   job   1   5   ;   half   5   ;   margin   5   ;   check   5   ;   ");
        takes("user0 1;machine1;job1 5;half5;margin5;check5;");
        tellsError(-2, 7, "machine\t1;");
        tellsError(-2, 2, "  \n  machine 1;");
    }

    private static void numbersOutOfTheirRange() {
        about("section 5: VALUE_ERROR: a number out of its range .. (at its first digit)");
        String[] before = {"user 0 ", "machine ", "job 0 ", "half ", "margin ", "check "};
        int[] least = {1, 1, 1, 1, 0, 1};
        int[] greatest = {99, 4, 60, 50, 400, 20};
        for (int i = 0; i < before.length; i++) {
            takes(before[i] + least[i] + ";");
            takes(before[i] + greatest[i] + ";");
            int at = before[i].length();
            tellsError(-3, at, before[i] + (greatest[i] + 1) + ";");
            tellsError(-3, at + 2, before[i] + "  00" + (greatest[i] + 1) + "  ;");
            tellsError(-3, at, before[i] + (greatest[i] + 1));
            if (least[i] > 0) {
                tellsError(-3, at, before[i] + (least[i] - 1) + ";");
                tellsError(-3, at, before[i] + "000;");
            }
        }
    }

    private static void usersThatDoNotExist() {
        about("section 5: VALUE_ERROR: .. a user that does not exist");
        tellsError(-3, 5, "user 1 1;");
        tellsError(-3, 4, "job 1 1;");
        tellsError(-3, 14, "user 0 1;user 2 1;");
        tellsError(-3, 13, "user 0 1;job 2 1;");
        tellsError(-3, 4, "job 1 1;user 0 1;");
        tellsError(-3, TWELVE_USERS.length() + 4, TWELVE_USERS + "job 12 1;");
        takes(TWELVE_USERS + "job 11 1;");
        takes("user 0 1;user 1 1;job 2 1;");
        ShareTickets x = place(TWELVE_USERS);
        is(-3, load(x, "user 5 1;"), "the users of the present place do not count");
        is(12, x.count(0), "users");
    }

    private static void parentsWithJobsAndJobsOfParents() {
        about("section 5: VALUE_ERROR: .. a parent that has jobs, or a user of a job that is no leaf (at its first digit)");
        tellsError(-3, 13, "job 0 1;user 0 1;");
        tellsError(-3, 26, "user 0 1;job 1 1;  user   1 1;");
        tellsError(-3, 13, "user 0 1;job 0 1;");
        tellsError(-3, 22, "user 0 1;user 1 1;job 1 1;");
        tellsError(-3, 13, "job 0 1;user 0 0;");
        tellsError(-3, 13, "job 0 1;user 0;");
        tellsError(-3, 13, "job 0 1;user 00x");
        tellsError(-3, 13, "user 0 1;job 0 99;");
        takes("job 0 1;job 0 1;");
        takes("user 0 1;job 1 1;user 0 1;job 2 1;job 1 1;");
        ShareTickets x = place("job 0 1;machine 1;");
        is(2, load(x, "user 0 1;"), "the jobs of the present place do not count");
    }

    private static void tooManyIsToldAtTheWord() {
        about("section 5: TOO_MANY: a 13th user, a 7th machine or a 31st job (at its word)");
        String[] full = {TWELVE_USERS, SIX_MACHINES, THIRTY_JOBS};
        String[] words = {"user", "machine", "job"};
        String[] behind = {" 0 1;", "0 1;", " 99 0;", " ;", ";", "", " ", " x", "#"};
        for (int i = 0; i < full.length; i++) {
            int end = full[i].length();
            takes(full[i]);
            for (String b : behind) {
                tellsError(-4, end, full[i] + words[i] + b);
            }
            tellsError(-4, end + 3, full[i] + "   " + words[i] + " 1;");
            tellsError(-2, end, full[i] + words[i] + "s 0 1;");
            tellsError(-2, end, full[i] + words[i].substring(1) + " 0 1;");
            takes(full[i] + "half 1;");
        }
        takes(TWELVE_USERS + SIX_MACHINES + "job 11 1;".repeat(30));
        ShareTickets x = place("user 0 1;".repeat(11) + "machine 4;".repeat(6) + "job 1 1;".repeat(30));
        is(1, load(x, "machine 1;machine 1;machine 1;machine 1;machine 1;machine 1;"), "what the present place has does not count");
    }

    private static void readingStopsAtTheFirstError() {
        about("section 5: Reading stops at the first error");
        tellsError(-3, 8, "machine 9;userx 0 1;");
        tellsError(-2, 0, "userx 0 1;machine 9;");
        tellsError(-3, 5, "user 1 0;");
        tellsError(-3, 7, "user 0 0");
        tellsError(-2, 6, "job 0 x0;job 0 0;");
        tellsError(-3, 8, "machine 0" + ";machine 1".repeat(7));
        tellsError(-4, 60, SIX_MACHINES + "machine 0;x");
        tellsError(-3, 65, SIX_MACHINES + "half 0;machine 1;");
    }

    private static void theLastSettingCounts() {
        about("section 5: the three settings (the last one of a kind counts; one that is not told is as at first)");
        ShareTickets x = place("half 1;margin 0;check 1;half 50;margin 400;check 20;half 3;margin 0;");
        is(3, x.count(5), "half-life");
        is(0, x.count(6), "margin");
        is(20, x.count(7), "checkpoint");
        is(1, load(x, "margin 7;"), "load");
        is(10, x.count(5), "half-life as at first");
        is(7, x.count(6), "margin");
        is(5, x.count(7), "checkpoint as at first");
        tellsError(-3, 5, "half 0;half 1;");
    }

    private static void jobsWaitUntilAllWasRead() {
        about("section 5: All jobs of a text are waiting until all was read; then slots are filled (at the time 0)");
        shows("0", place("job 0 5;machine 1;"), "a machine behind its job");
        shows("1", place("machine 1;user 0 1;user 0 2;job 1 5;job 2 5;"), "the greatest worth, not the first one");
        shows("0", place("machine 1;user 0 1;job 1 5;user 0 1;job 2 5;"), "equal worths");
        shows("1", place("user 0 1;machine 1;job 1 5;user 0 2;job 2 5;"), "with all shares of the text");
        ShareTickets x = place("job 0 1;machine 1;job 0 1;");
        is(0, x.count(4), "time");
        is(0, x.job(0, 6) + x.job(1, 6), "ticks waited");
        is(1, x.count(9), "running jobs");
        is(1, x.count(8), "waiting jobs");
        is(0, x.count(11), "interruptions");
    }

    private static void errorPositionIsOfTheLatestLoad() {
        about("promise 4: NONE if it found no error or if there was no call");
        ShareTickets x = new ShareTickets();
        is(-1, x.errorPosition(), "no call");
        append(x, "user");
        is(-1, x.errorPosition(), "append is no load");
        x.load(4);
        is(4, x.errorPosition(), "an error at 4");
        append(x, "user 0 1;");
        is(4, x.errorPosition(), "append is no load");
        fails(ARGUMENT, "load 21", () -> x.load(21));
        is(4, x.errorPosition(), "a load that throws changes nothing");
        x.load(9);
        is(-1, x.errorPosition(), "no error");
        load(x, ";");
        is(0, x.errorPosition(), "an error at 0");
        load(x, "half 10;".repeat(75).substring(0, 599) + " ");
        is(600, x.errorPosition(), "an error at 600");
        x.load(0);
        is(-1, x.errorPosition(), "no error in nothing");
    }

    private static void machinesAreWrittenInTheirOrder() {
        about("promise 27: its running jobs in ascending order, with a comma .., a minus sign if there are none, an x ..");
        ShareTickets x = new ShareTickets();
        is(0, x.writeMachines(), "no machine");
        shows("-", place("machine 4;"), "one without jobs");
        shows("- - - - - -", place(SIX_MACHINES), "six without jobs");
        shows("0", place("machine 4;job 0 1;"), "one job");
        ShareTickets y = place("machine 4;".repeat(6) + "job 0 1;".repeat(30));
        shows("0,1,2,3 4,5,6,7 8,9,10,11 12,13,14,15 16,17,18,19 20,21,22,23", y, "24 jobs");
        for (int job = 0; job < 6; job++) {
            y.cancel(job);
        }
        shows("24,25,26,27 6,7,28,29 8,9,10,11 12,13,14,15 16,17,18,19 20,21,22,23", y, "two digits");
        y.cancel(27);
        y.cancel(25);
        y.cancel(8);
        y.cancel(10);
        shows("24,26 6,7,28,29 9,11 12,13,14,15 16,17,18,19 20,21,22,23", y, "free slots between them");
        for (int machine = 0; machine < 6; machine++) {
            y.setUp(machine, false);
        }
        shows("x x x x x x", y, "all down");
        ShareTickets z = place("machine 2;machine 1;job 0 60;job 0 60;job 0 9;");
        z.setUp(0, false);
        z.cancel(2);
        shows("x 0", z, "one down");
        z.setUp(0, true);
        z.setUp(1, false);
        shows("0,1 x", z, "ascending, whichever began first");
    }

    private static void writtenBytesEndWithTheText() {
        about("promise 28: if there is no such byte; there is none at first");
        ShareTickets x = new ShareTickets();
        fails(INDEX, "byte 0 at first", () -> x.writtenByte(0));
        x.writeMachines();
        fails(INDEX, "byte 0 of nothing", () -> x.writtenByte(0));
        Recipe written = () -> {
            ShareTickets y = place("machine 2;machine 1;job 0 1;job 0 1;");
            y.writeMachines();
            return y;
        };
        int[] none = {-1, 5, Integer.MIN_VALUE, Integer.MAX_VALUE};
        for (int index : none) {
            refuses(INDEX, "byte " + index, written, y -> y.writtenByte(index));
        }
        ShareTickets y = written.make();
        is('0', y.writtenByte(0), "the first byte");
        is('-', y.writtenByte(4), "the last byte");
        y.tick(1);
        is('0', y.writtenByte(0), "it stays as it was written");
        is(3, y.writeMachines(), "length");
        is('-', y.writtenByte(2), "the last byte");
        fails(INDEX, "a byte of the text before", () -> y.writtenByte(3));
        load(y, "machine 1;machine 1;machine 1;");
        is('-', y.writtenByte(2), "load leaves it");
        fails(INDEX, "load leaves it", () -> y.writtenByte(3));
    }

    public static void main(String[] args) {
        aNewObjectIsEmpty();
        theBufferTakesSixHundredBytes();
        bytesComeInTheirOrder();
        lengthIsNoGreaterThanTheBuffer();
        theBufferIsEmptyAfterwards();
        aTextWithAnErrorLeavesThePlace();
        aTextReplacesThePlace();
        aTextReplacesWhatWasThoughtOf();
        emptyTextsAreTexts();
        aTextHasAtMostSixHundredBytes();
        anUnexpectedEndIsAtTheLength();
        bytesThatAreNotAllowed();
        tokensThatAreNotAllowed();
        wordsAreTheLongestPossible();
        numbersAreTheLongestPossible();
        spacesMayStandInFrontOfTokens();
        numbersOutOfTheirRange();
        usersThatDoNotExist();
        parentsWithJobsAndJobsOfParents();
        tooManyIsToldAtTheWord();
        readingStopsAtTheFirstError();
        theLastSettingCounts();
        jobsWaitUntilAllWasRead();
        errorPositionIsOfTheLatestLoad();
        machinesAreWrittenInTheirOrder();
        writtenBytesEndWithTheText();
        end("section 5 and promises 1 to 4, 27 and 28 hold at their boundaries");
    }
}
