import java.nio.ByteBuffer;
import java.nio.charset.StandardCharsets;
import java.util.ArrayList;
import java.util.Arrays;
import java.util.List;
import java.util.NoSuchElementException;

/** What the tests share: holding answers against those that are due, and making places from texts. */
abstract class Checks {
    static final Class<? extends Throwable> INDEX = IndexOutOfBoundsException.class;
    static final Class<? extends Throwable> ARGUMENT = IllegalArgumentException.class;
    static final Class<? extends Throwable> STATE = IllegalStateException.class;
    static final Class<? extends Throwable> NO_SUCH = NoSuchElementException.class;
    static final int SPACES = 0x20202020;
    /** What later calls of an object answer is free. */
    private static final int MOST_CALLS = 512;

    private static String sentence = "";
    private static int wrong;

    interface Call {
        long answer();
    }

    /** Makes a new place, the same one each time. */
    interface Recipe {
        ShareTickets make();
    }

    interface Act {
        void on(ShareTickets x);
    }

    interface Question {
        Object to(ShareTickets x);
    }

    /** Tells which sentence of the document the checks behind this call are about. */
    static void about(String newSentence) {
        sentence = newSentence;
    }

    static void end(String allIsWell) {
        if (wrong > 0) {
            System.exit(1);
        }
        System.out.println(allIsWell);
    }

    private static void complain(String text) {
        wrong++;
        System.out.println(sentence + ": " + text);
    }

    static void is(long due, long got, String what) {
        if (got != due) {
            complain(what + " answered " + got + ", due is " + due);
        }
    }

    static void same(String due, String got, String what) {
        if (!got.equals(due)) {
            complain(what + " shows " + got + ", due is " + due);
        }
    }

    static void holds(boolean isSo, String otherwise) {
        if (!isSo) {
            complain(otherwise);
        }
    }

    static void fails(Class<? extends Throwable> due, String what, Call call) {
        throwsThis(due, what, null, x -> call.answer());
    }

    private static boolean throwsThis(Class<? extends Throwable> due, String what, ShareTickets x, Act call) {
        String got = "nothing";
        try {
            call.on(x);
        } catch (RuntimeException e) {
            if (e.getClass() == due && thrownByTheClass(e)) {
                return true;
            }
            got = e.toString();
        }
        complain(what + " throws " + got + ", due is " + due.getName());
        return false;
    }

    /** The library's own checks throw the same classes, but in its own lines. */
    private static boolean thrownByTheClass(Throwable thrown) {
        StackTraceElement[] trace = thrown.getStackTrace();
        String name = trace.length > 0 ? trace[0].getClassName() : "";
        return name.equals("ShareTickets") || name.startsWith("ShareTickets$");
    }

    static int append(ShareTickets x, String text) {
        byte[] bytes = new byte[(text.length() + 19) / 20 * 20];
        Arrays.fill(bytes, (byte) ' ');
        System.arraycopy(text.getBytes(StandardCharsets.ISO_8859_1), 0, bytes, 0, text.length());
        ByteBuffer ints = ByteBuffer.wrap(bytes);
        int length = 0;
        while (ints.hasRemaining()) {
            length = x.append(ints.getInt(), ints.getInt(), ints.getInt(), ints.getInt(), ints.getInt());
        }
        return length;
    }

    static int load(ShareTickets x, String text) {
        append(x, text);
        return x.load(text.length());
    }

    static ShareTickets place(String text) {
        ShareTickets x = new ShareTickets();
        is(1, load(x, text) > 0 ? 1 : 0, "load " + text);
        return x;
    }

    private static String written(ShareTickets x, int length) {
        StringBuilder s = new StringBuilder();
        for (int i = 0; i < length; i++) {
            s.append((char) x.writtenByte(i));
        }
        return s.toString();
    }

    static void shows(String due, ShareTickets x, String what) {
        same(due, written(x, x.writeMachines()), what);
    }

    static void tellsError(int code, int position, String text) {
        ShareTickets x = new ShareTickets();
        is(code, load(x, text), "load of " + text);
        is(position, x.errorPosition(), "position of the error in " + text);
        is(1, x.count(0), "users after the error in " + text);
        is(0, x.count(1) + x.count(2), "machines and jobs after the error in " + text);
    }

    /** One object with its answers so far; an exception is an answer, too. */
    private static final class Talk {
        final ShareTickets x;
        final StringBuilder answers = new StringBuilder();
        int calls;

        Talk(ShareTickets x) {
            this.x = x;
        }

        /** Whether the call did not throw. */
        boolean ask(String name, Question question) {
            calls++;
            answers.append('\n').append(name).append('=');
            try {
                answers.append(question.to(x));
                return true;
            } catch (RuntimeException e) {
                answers.append(e.getClass().getSimpleName());
                return false;
            }
        }

        void askAll(String name, int last, Numbered question) {
            for (int what = 0; what <= last; what++) {
                int w = what;
                ask(name + what, y -> question.to(y, w));
            }
        }
    }

    private interface Numbered {
        Object to(ShareTickets x, int what);
    }

    private static void askOfThePlace(Talk talk) {
        talk.ask("errorPosition", ShareTickets::errorPosition);
        for (int i = 0; i < 99; i++) {
            int index = i;
            if (!talk.ask("b" + i, y -> y.writtenByte(index))) {
                break;
            }
        }
        talk.askAll("count", 12, ShareTickets::count);
        talk.ask("first", ShareTickets::first);
        talk.ask("drift", ShareTickets::drift);
        talk.ask("neediest", ShareTickets::neediest);
        for (int i = 0; i < talk.x.count(1); i++) {
            int machine = i;
            talk.askAll("machine" + i + "/", 3, (y, what) -> y.machine(machine, what));
        }
        for (int i = 0; i < talk.x.count(3); i++) {
            int loan = i;
            talk.askAll("loan" + i + "/", 4, (y, what) -> y.loan(loan, what));
        }
        talk.askAll("ranked", 12, ShareTickets::ranked);
    }

    private static void askOfTheUsers(Talk talk) {
        for (int i = 0; i < talk.x.count(0); i++) {
            int user = i;
            talk.askAll("user" + i + "/", 7, (y, what) -> y.user(user, what));
            talk.ask("balance" + i, y -> y.balance(user));
            talk.ask("worth" + i, y -> y.worth(user, 1));
            talk.ask("part" + i, y -> y.part(user));
        }
    }

    private static void askOfTheJobs(Talk talk) {
        for (int i = 0; i < talk.x.count(2); i++) {
            int job = i;
            talk.askAll("job" + i + "/", 6, (y, what) -> y.job(job, what));
            talk.ask("finishedIn" + i, y -> y.finishedIn(job));
        }
        talk.askAll("ahead9/", 3, (y, what) -> y.ahead(9, what));
        talk.askAll("ahead100/", 3, (y, what) -> y.ahead(100, what));
    }

    private static void askOfTheBuffer(Talk talk) {
        // The room that is left in the buffer tells its length, whatever stands in it.
        talk.ask("load too much", y -> y.load(601));
        while (talk.calls < 40 && talk.ask("append", y -> y.append(SPACES, SPACES, SPACES, SPACES, SPACES))) {
            continue;
        }
        talk.ask("load", y -> y.load(600));
        talk.ask("errorPosition", ShareTickets::errorPosition);
        talk.askAll("count", 12, ShareTickets::count);
    }

    private static void askOfWhatCanBeUndone(Talk talk) {
        while (talk.calls < 250 && talk.ask("undo", ShareTickets::undo)) {
            talk.askAll("count", 12, ShareTickets::count);
            talk.askAll("shares", talk.x.count(0) - 1, (y, user) -> y.user(user, 1));
            talk.ask("written", ShareTickets::writeMachines);
        }
    }

    private static void askOfWhatFollows(Talk talk) {
        for (int i = 0; i < 12; i++) {
            talk.ask("tick", y -> y.tick(1));
            talk.ask("written", y -> written(y, y.writeMachines()));
            talk.ask("use", y -> y.user(0, 5));
        }
        talk.ask("submit", y -> y.submit(y.count(0) - 1, 3));
        talk.askAll("count", 12, ShareTickets::count);
    }

    /** Each part is asked of an object of its own, since together they are too many calls. */
    private static List<String> allThatAnswers(Recipe recipe, boolean withWhatCanBeUndone) {
        List<Talk> talks = new ArrayList<>();
        for (int part = 0; part < (withWhatCanBeUndone ? 6 : 5); part++) {
            talks.add(new Talk(recipe.make()));
        }
        askOfThePlace(talks.get(0));
        askOfTheUsers(talks.get(1));
        askOfTheJobs(talks.get(2));
        askOfTheBuffer(talks.get(3));
        askOfWhatFollows(talks.get(4));
        if (withWhatCanBeUndone) {
            askOfWhatCanBeUndone(talks.get(5));
        }
        List<String> answers = new ArrayList<>();
        for (Talk talk : talks) {
            is(1, talk.calls < MOST_CALLS * 3 / 4 ? 1 : 0, "number of calls asked of one object");
            answers.add(talk.answers.toString());
        }
        return answers;
    }

    /** Of answers that differ the first one is told alone, since the others mostly follow from it. */
    private static void sameAnswers(List<String> due, List<String> got, String what) {
        for (int part = 0; part < due.size(); part++) {
            String[] dueAnswers = due.get(part).split("\n");
            String[] gotAnswers = got.get(part).split("\n");
            for (int i = 0; i < Math.max(dueAnswers.length, gotAnswers.length); i++) {
                String dueAnswer = i < dueAnswers.length ? dueAnswers[i] : "nothing";
                String gotAnswer = i < gotAnswers.length ? gotAnswers[i] : "nothing";
                if (!gotAnswer.equals(dueAnswer)) {
                    same(dueAnswer, gotAnswer, what);
                    return;
                }
            }
        }
    }

    /** A call must throw, and everything must answer behind it as it did before it. */
    static void refuses(Class<? extends Throwable> due, String what, Recipe recipe, Act call) {
        if (!throwsThis(due, what, recipe.make(), call)) {
            return;
        }
        Recipe afterwards = () -> {
            ShareTickets x = recipe.make();
            throwsThis(due, what, x, call);
            return x;
        };
        sameAnswers(allThatAnswers(recipe, true), allThatAnswers(afterwards, true), "what answers behind " + what);
    }

    /** A call that is no change: what can be undone is the same as without it. */
    static void changesNothing(String what, Recipe recipe, Act call) {
        Recipe afterwards = () -> {
            ShareTickets x = recipe.make();
            call.on(x);
            return x;
        };
        sameAnswers(allThatAnswers(recipe, true), allThatAnswers(afterwards, true), "what answers behind " + what);
    }

    /** A call is one change, and undoing it brings everything back. The place must have fewer than 8 changes. */
    static void isOneChange(String what, Recipe recipe, Act call) {
        Recipe afterwards = () -> {
            ShareTickets x = recipe.make();
            call.on(x);
            x.undo();
            return x;
        };
        sameAnswers(allThatAnswers(recipe, true), allThatAnswers(afterwards, true), "what answers when undone: " + what);
    }

    /** Undoing a change on a place that has had 8 changes or more, the oldest of which falls away by it. */
    static void isOneMoreChange(String what, Recipe recipe, Act call) {
        Recipe afterwards = () -> {
            ShareTickets x = recipe.make();
            call.on(x);
            is(7, x.undo(), "undo of " + what);
            return x;
        };
        sameAnswers(allThatAnswers(recipe, false), allThatAnswers(afterwards, false), "what answers when undone: " + what);
    }
}
