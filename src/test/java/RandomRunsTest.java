import java.lang.reflect.InvocationTargetException;
import java.lang.reflect.Method;
import java.nio.ByteBuffer;
import java.nio.charset.StandardCharsets;
import java.util.ArrayList;
import java.util.Arrays;
import java.util.HashMap;
import java.util.List;
import java.util.Map;
import java.util.Random;

/**
 * Runs of calls from fixed seeds, on ShareTickets and on Model: each answer must be the same, an
 * exception of the same class included.
 */
public final class RandomRunsTest {
    private static final int RUNS = 1500;
    private static final int MOST_CALLS = 512;

    private final Random random;
    private final ShareTickets real = new ShareTickets();
    private final Model model = new Model();
    private final List<String> calls = new ArrayList<>();
    private static final Map<String, Method> REAL = methods(ShareTickets.class);
    private static final Map<String, Method> MODEL = methods(Model.class);
    private static final Map<String, Integer> SEEN = new HashMap<>();

    private RandomRunsTest(long seed) {
        random = new Random(seed);
    }

    private static Map<String, Method> methods(Class<?> type) {
        Map<String, Method> found = new HashMap<>();
        for (Method m : type.getMethods()) {
            if (m.getDeclaringClass() == type) {
                found.put(m.getName(), m);
            }
        }
        return found;
    }

    private static String answer(Object on, Method method, Object[] args) {
        try {
            return String.valueOf(method.invoke(on, args));
        } catch (InvocationTargetException e) {
            String name = e.getCause().getClass().getName();
            if (on instanceof ShareTickets && !thrownByTheClass(e.getCause())) {
                return "the machine throws " + name;
            }
            return "throws " + name;
        } catch (IllegalAccessException e) {
            throw new IllegalStateException(e);
        }
    }

    /** The class throws in its own lines with a text of its own; the machine's texts name numbers or nulls. */
    private static boolean thrownByTheClass(Throwable thrown) {
        return thrown.getStackTrace().length > 0 && thrown.getStackTrace()[0].getClassName().startsWith("ShareTickets")
            && thrown.getMessage() != null
            && (thrown.getClass() == IllegalStateException.class || thrown.getClass() == IllegalArgumentException.class
                || thrown.getClass() == IndexOutOfBoundsException.class
                || thrown.getClass() == java.util.NoSuchElementException.class);
    }

    private String call(String name, Object... args) {
        String told = name + Arrays.toString(args);
        calls.add(told);
        String got = answer(real, REAL.get(name), args);
        String due = answer(model, MODEL.get(name), args);
        if (!got.equals(due)) {
            for (String c : calls) {
                System.out.println("  " + c);
            }
            System.out.println(told + " answered " + got + ", due is " + due);
            System.exit(1);
        }
        String kind = name + (due.startsWith("throws") ? " " + due : due.startsWith("-") ? " negative" : "");
        SEEN.merge(kind, 1, Integer::sum);
        return got;
    }

    private int pick(int from, int to) {
        return from + random.nextInt(to - from + 1);
    }

    /** Mostly a number that is allowed, sometimes one beside it or far off. */
    private int near(int from, int to) {
        int way = random.nextInt(40);
        if (way == 0) {
            return from - 1;
        }
        if (way == 1) {
            return to + 1;
        }
        if (way == 2) {
            return random.nextInt();
        }
        if (way == 3) {
            return random.nextBoolean() ? Integer.MAX_VALUE : Integer.MIN_VALUE;
        }
        return to < from ? from : way < 8 ? from : way < 12 ? to : pick(from, to);
    }

    private int count(int what) {
        return Integer.parseInt(answer(model, MODEL.get("count"), new Object[] {what}));
    }

    /** Mostly a leaf, sometimes another user or none. */
    private int user() {
        int users = count(0);
        for (int i = 0; i < 4 && random.nextInt(8) > 0; i++) {
            int user = random.nextInt(users);
            if (answer(model, MODEL.get("user"), new Object[] {user, 2}).equals("0")) {
                return user;
            }
        }
        return near(0, users - 1);
    }

    private void append(String text) {
        byte[] bytes = Arrays.copyOf(text.getBytes(StandardCharsets.ISO_8859_1), (text.length() + 19) / 20 * 20);
        if (random.nextInt(3) > 0) {
            Arrays.fill(bytes, text.length(), bytes.length, (byte) ' ');
        }
        ByteBuffer ints = ByteBuffer.wrap(bytes);
        for (int i = 0; i < bytes.length; i += 20) {
            call("append", ints.getInt(), ints.getInt(), ints.getInt(), ints.getInt(), ints.getInt());
        }
        call("load", random.nextInt(20) == 0 ? near(0, bytes.length) : text.length());
        call("errorPosition");
    }

    private String spaces() {
        return random.nextInt(8) == 0 ? "  ".substring(random.nextInt(2)) : "";
    }

    private String token(String token) {
        return spaces() + token;
    }

    private String statement(String word, int... numbers) {
        StringBuilder s = new StringBuilder(token(word));
        for (int n : numbers) {
            String digits = random.nextInt(30) == 0 ? "00" + n : String.valueOf(n);
            s.append(" ").append(token(digits));
        }
        return s.append(token(";")).toString();
    }

    private String text() {
        StringBuilder s = new StringBuilder();
        int users = random.nextInt(6) == 0 ? pick(10, 13) : random.nextInt(8) == 0 ? 0 : pick(2, 8);
        int machines = random.nextInt(8) == 0 ? pick(5, 7) : pick(0, 4);
        int jobs = random.nextInt(10) == 0 ? pick(28, 32) : pick(0, 15);
        List<Integer> leaves = new ArrayList<>(List.of(0));
        for (int u = 1; u <= users; u++) {
            int parent = random.nextInt(u);
            leaves.remove((Integer) parent);
            leaves.add(u);
            s.append(statement("user", parent, pick(1, random.nextBoolean() ? 99 : 5)));
        }
        for (int m = 0; m < machines; m++) {
            s.append(statement("machine", pick(1, random.nextBoolean() ? 4 : 2)));
        }
        for (int what = 0; what < 3; what++) {
            if (random.nextBoolean()) {
                s.append(setting(what));
            }
        }
        for (int j = 0; j < jobs; j++) {
            s.append(statement("job", leaves.get(random.nextInt(leaves.size())), pick(1, 60)));
        }
        return s.append(spaces()).toString();
    }

    private String setting(int what) {
        return what == 0 ? statement("half", pick(1, 50)) : what == 1 ? statement("margin", pick(0, 400) / pick(1, 9))
            : statement("check", pick(1, 20));
    }

    /** A text with a letter changed, taken out or put in, a number changed, or two statements in the other order. */
    private String spoilt(String text) {
        StringBuilder s = new StringBuilder(text);
        String signs = " ;;0123456789aejorsu\t\0A{/:`\u00ff99999999999";
        for (int i = pick(1, 3); i > 0; i--) {
            int at = random.nextInt(s.length() + 1);
            char sign = signs.charAt(random.nextInt(signs.length()));
            int way = random.nextInt(5);
            if (way == 0 || at == s.length()) {
                s.insert(at, sign);
            } else if (way == 1) {
                s.deleteCharAt(at);
            } else if (way == 2) {
                s.setCharAt(at, sign);
            } else if (way == 3) {
                int digit = at;
                while (digit < s.length() && !Character.isDigit(s.charAt(digit))) {
                    digit++;
                }
                if (digit < s.length()) {
                    s.setCharAt(digit, (char) ('0' + random.nextInt(10)));
                }
            } else {
                String statement = statement("user", random.nextInt(12), random.nextInt(100));
                s.insert(Math.max(0, s.lastIndexOf(";", at) + 1), statement);
            }
        }
        return s.length() > 600 ? s.substring(0, 600) : s.toString();
    }

    private int ticketsOf(int user) {
        String tickets = answer(model, MODEL.get("user"), new Object[] {user, 4});
        int all = tickets.startsWith("throws") ? 500000 : Integer.parseInt(tickets);
        return Math.max(1, Math.min(500000, all / pick(1, 3)));
    }

    private void load() {
        String text = text();
        if (text.length() > 600) {
            text = text.substring(0, 600);
        }
        append(random.nextInt(3) == 0 ? spoilt(text) : text);
    }

    private void change() {
        int user = user();
        switch (random.nextInt(14)) {
            case 0: call("addUser", user, near(1, 99)); break;
            case 1: call("setShares", user, near(1, 99)); break;
            case 2:
            case 3: call("lend", user, user(), near(1, ticketsOf(user)), near(1, random.nextBoolean() ? 50 : 9)); break;
            case 4:
            case 5: call("submit", user, near(1, 60)); break;
            case 6: call("cancel", near(0, count(2) - 1)); break;
            case 7: call("setUp", near(0, count(1) - 1), random.nextInt(3) > 0); break;
            case 8: {
                int what = near(0, 2);
                call("set", what, what == 0 ? near(1, 50) : what == 1 ? near(0, 400) : near(1, 20));
                break;
            }
            case 9: call("undo"); break;
            case 10: call("tick", near(1, 60)); break;
            default: call("tick", pick(1, 3)); break;
        }
    }

    private void question() {
        int user = user();
        int job = near(0, count(2) - 1);
        switch (random.nextInt(18)) {
            case 0: call("count", near(0, 12)); break;
            case 1:
            case 2: call("user", user, near(0, 7)); break;
            case 3: call("loan", near(0, count(3) - 1), near(0, 4)); break;
            case 4: call("balance", user); break;
            case 5: call("ranked", near(0, count(0) - 1)); break;
            case 6: call("worth", user, near(1, 30)); break;
            case 7: call("machine", near(0, count(1) - 1), near(0, 3)); break;
            case 8:
            case 9: call("job", job, near(0, 6)); break;
            case 10: call("first"); break;
            case 11:
                if (random.nextInt(4) == 0) {
                    call("finishedIn", job);
                }
                break;
            case 12: call("ahead", near(1, random.nextInt(4) == 0 ? 100 : 9), near(0, 3)); break;
            case 13: call("drift"); break;
            case 14: call("part", user); break;
            case 15: call("neediest"); break;
            case 16: call("writeMachines"); break;
            default: call("writtenByte", near(0, 12)); break;
        }
    }

    /** Asks for all that can be asked at little cost. */
    private void sweep() {
        for (int what = 0; what <= 12; what++) {
            call("count", what);
        }
        for (int user = 0; user < count(0); user++) {
            for (int what = 0; what <= 7; what++) {
                call("user", user, what);
            }
            call("balance", user);
        }
        for (int job = 0; job < count(2); job++) {
            for (int what = 2; what <= 6; what++) {
                call("job", job, what);
            }
        }
        int length = Integer.parseInt(call("writeMachines"));
        for (int i = -1; i <= length; i++) {
            call("writtenByte", i);
        }
    }

    /** Goes on to the end of time, with changes on the way. */
    private void runLong() {
        load();
        while (calls.size() < 400) {
            call("tick", near(50, 60));
            if (random.nextInt(3) == 0) {
                change();
            }
            if (random.nextInt(3) == 0) {
                question();
            }
        }
        sweep();
    }

    private void run() {
        if (random.nextInt(5) > 0) {
            String text = text();
            append(text.length() > 600 ? "machine 2;" : text);
        }
        int steps = pick(20, 150);
        while (calls.size() < steps) {
            int way = random.nextInt(60);
            if (way == 0) {
                load();
            } else if (way < 30) {
                change();
            } else {
                question();
            }
            if (calls.size() > MOST_CALLS) {
                return;
            }
        }
        sweep();
    }

    public static void main(String[] args) {
        int runs = args.length > 0 ? Integer.parseInt(args[0]) : RUNS;
        long first = args.length > 1 ? Long.parseLong(args[1]) : 1;
        for (long seed = first; seed < first + runs; seed++) {
            RandomRunsTest test = new RandomRunsTest(seed);
            if (seed % 50 == 0) {
                test.runLong();
            } else {
                test.run();
            }
        }
        if (args.length > 0) {
            SEEN.entrySet().stream().sorted(Map.Entry.comparingByKey()).forEach(e -> System.out.println(e));
        }
        System.out.println(runs + " random runs answered as the model does");
    }
}
