import java.lang.reflect.Method;
import java.util.ArrayList;
import java.util.Arrays;
import java.util.LinkedHashMap;
import java.util.List;
import java.util.Map;
import java.util.Set;
import java.util.TreeSet;
import java.util.function.Consumer;

/**
 * "A method that throws an exception changes nothing. If several exceptions apply, the one that is documented first is
 * thrown." In machines of every kind, every call with numbers at and beyond its edges: which exception it throws is
 * held against ChainModel, and a machine that refused it is then used in every way beside a model that never met it.
 */
public final class RefusalsTest {
    private static final int MIN = Integer.MIN_VALUE;
    private static final int MAX = Integer.MAX_VALUE;
    private static final int STAGES = 6;
    private static final int REGISTERS = 3;
    private static final int SECRETS = 8;
    private static final int PEOPLE = 5;
    private static final int LAST_KEY = 9;
    private static final int LONGEST_LOG = 12;
    private static final int[] INDICES = {MIN, -1, 0, 1, 2, 3, 4, 5, 6, 7, 8, 12, MAX};

    private final Check check = new Check();
    private final Set<String> refused = new TreeSet<>();

    public static void main(String[] args) {
        new RefusalsTest().run();
    }

    private void run() {
        kinds().forEach((name, kind) -> {
            String dueUse = use(made(new ChainModel(), kind));
            String dueAgreed = whoAgrees(made(new ChainModel(), kind));
            for (Method method : Calls.FACE) {
                for (Object[] arguments : edges(method)) {
                    String what = name + ": " + method.getName() + Arrays.toString(arguments);
                    String due = Calls.answer(made(new ChainModel(), kind), method, arguments);
                    StartChain chain = made(new StartChain(), kind);
                    check.same(what, due, Calls.answer(chain, method, arguments));
                    if (Calls.isThrown(due)) {
                        refused.add(method.getName() + " " + due);
                        check.same("after " + what + " its use", dueUse, use(chain));
                        StartChain again = made(new StartChain(), kind);
                        Calls.answer(again, method, arguments);
                        check.same("after " + what + " who agrees", dueAgreed, whoAgrees(again));
                    }
                }
            }
        });
        checkAllCameUp();
        check.finish();
    }

    private static <T> T made(T on, Consumer<Object> kind) {
        kind.accept(on);
        return on;
    }

    private void checkAllCameUp() {
        for (Method method : Calls.FACE) {
            for (Class<?> type : method.getExceptionTypes()) {
                String what = method.getName() + " throws " + type.getSimpleName();
                check.same("came up: " + what, true, refused.contains(what));
            }
        }
    }

    // ---- the kinds of machines

    private static Map<String, Consumer<Object>> kinds() {
        Map<String, Consumer<Object>> kinds = new LinkedHashMap<>();
        kinds.put("new", on -> { });
        kinds.put("without stages", RefusalsTest::prepareKeysAndPeople);
        kinds.put("with an empty stage", on -> call(on, "addStage", 1));
        kinds.put("halted at an empty stage", on -> {
            call(on, "addStage", 1);
            call(on, "start");
        });
        kinds.put("before a start", RefusalsTest::prepare);
        kinds.put("running without secrets", on -> {
            prepare(on);
            call(on, "start");
        });
        kinds.put("running", RefusalsTest::runWithSecrets);
        kinds.put("stopped", on -> {
            runWithSecrets(on);
            call(on, "stop");
        });
        kinds.put("halted", on -> {
            runWithSecrets(on);
            call(on, "setTrusted", 2, false);
            call(on, "stop");
            call(on, "start");
        });
        kinds.put("full", RefusalsTest::fill);
        kinds.put("full and stopped", on -> {
            fill(on);
            call(on, "stop");
        });
        return kinds;
    }

    private static void prepareKeysAndPeople(Object on) {
        call(on, "setTrusted", 1, true);
        call(on, "setTrusted", 2, true);
        call(on, "setAgreed", 1, true);
        call(on, "setAgreed", 4, true);
    }

    /** Three stages that would run, the first with both slots filled, the others with the slot 1 empty. */
    private static void prepare(Object on) {
        prepareKeysAndPeople(on);
        for (int stage = 0; stage < REGISTERS; stage++) {
            call(on, "addStage", stage);
            call(on, "install", stage, 1 + stage % 2, 2, 10);
        }
        call(on, "install", 0, 1, 3, 10);
    }

    /** Secret 0 opens; 1 and 2 do not, and the people who agree are enough for the first of them alone. */
    private static void runWithSecrets(Object on) {
        prepare(on);
        call(on, "start");
        call(on, "commit");
        call(on, "seal", 2, 1);
        call(on, "seal", 1, 2);
        call(on, "seal", 3, 3);
        call(on, "install", 0, 1, 4, 30);
        call(on, "install", 0, 1, 5, 40);
        call(on, "setBad", 0, 1, true);
        call(on, "stop");
        call(on, "start");
        call(on, "install", 1, 2, 50, 50);
    }

    /** Six stages with both slots filled, eight secrets, some of which open, and all keys and people. */
    private static void fill(Object on) {
        for (int key = 1; key <= LAST_KEY; key++) {
            call(on, "setTrusted", key, true);
        }
        for (int stage = 0; stage < STAGES; stage++) {
            call(on, "addStage", stage % REGISTERS);
            call(on, "install", stage, 1 + stage, 1, 5);
            call(on, "install", stage, LAST_KEY - stage, 1, 10);
        }
        call(on, "start");
        for (int secret = 0; secret < SECRETS; secret++) {
            call(on, "seal", 1 + secret % 7, 1 + secret % PEOPLE);
        }
        call(on, "setBad", 3, 1, true);
        call(on, "stop");
        call(on, "start");
        for (int person = 0; person < PEOPLE - 1; person++) {
            call(on, "setAgreed", person, true);
        }
    }

    private static String call(Object on, String name, Object... arguments) {
        String answer = Calls.answer(on, name, arguments);
        if (Calls.isThrown(answer)) {
            throw new IllegalStateException(name + Arrays.toString(arguments) + " " + answer);
        }
        return answer;
    }

    // ---- the calls with their edges

    private static List<Object[]> edges(Method method) {
        List<Object[]> rows = new ArrayList<>();
        rows.add(new Object[0]);
        Class<?>[] types = method.getParameterTypes();
        for (int i = 0; i < types.length; i++) {
            List<Object[]> longer = new ArrayList<>();
            for (Object[] row : rows) {
                for (Object edge : types[i] == boolean.class ? List.of(false, true) : numbers(method.getName(), i)) {
                    Object[] next = Arrays.copyOf(row, i + 1);
                    next[i] = edge;
                    longer.add(next);
                }
            }
            rows = longer;
        }
        return rows;
    }

    private static List<Integer> numbers(String method, int index) {
        switch (method + index) {
            case "setTrusted0":
                return List.of(MIN, -1, 0, 1, 9, 10, MAX);
            case "install0":
                return List.of(MIN, -1, 0, 1, 2, 5, 6, MAX);
            case "install1":
                return List.of(0, 1, 10);
            case "install2":
                return List.of(0, 99, 100);
            case "install3":
                return List.of(-1, 0, 1000);
            case "setBad1": case "version1": case "reason1":
                return List.of(MIN, -1, 0, 1, 2, MAX);
            case "seal0": case "seal1":
                return List.of(MIN, 0, 1, 5, 6, 7, 8, MAX);
            default:
                return Arrays.stream(INDICES).boxed().toList();
        }
    }

    // ---- every use of a machine

    /** Looks at all that can be seen, then makes what is hidden show: who agreed, what is trusted, bad and sealed. */
    private static String use(Object x) {
        StringBuilder seen = new StringBuilder();
        look(x, seen);
        for (int person = 0; person < PEOPLE; person++) {
            add(x, seen, "setAgreed", person, false);
        }
        for (int key = 1; key <= LAST_KEY; key++) {
            add(x, seen, "setTrusted", key, true);
        }
        for (int stage = 0; stage < STAGES; stage++) {
            add(x, seen, "setBad", stage, 0, false);
            add(x, seen, "setBad", stage, 1, false);
        }
        add(x, seen, "commit");
        add(x, seen, "stop");
        // With the measures of their sealing, the secrets of all kinds open.
        startWith(x, seen, 10);
        startWith(x, seen, 777);
        recoverAll(x, seen);
        add(x, seen, "stop");
        add(x, seen, "addStage", 2);
        look(x, seen);
        return seen.toString();
    }

    /** Backwards, as use cannot see whether person 0 agreed: its first call sets that. */
    private static String whoAgrees(Object x) {
        StringBuilder seen = new StringBuilder();
        for (int person = PEOPLE - 1; person >= 0; person--) {
            add(x, seen, "setAgreed", person, false);
        }
        return seen.toString();
    }

    private static void startWith(Object x, StringBuilder seen, int measure) {
        for (int stage = 0; stage < STAGES; stage++) {
            add(x, seen, "install", stage, 1, 99, measure);
        }
        add(x, seen, "stop");
        add(x, seen, "start");
        for (int secret = 0; secret < SECRETS; secret++) {
            add(x, seen, "opens", secret);
        }
    }

    private static void recoverAll(Object x, StringBuilder seen) {
        for (int secret = 0; secret < SECRETS; secret++) {
            boolean isRecovered = false;
            for (int person = 0; person < PEOPLE && !isRecovered; person++) {
                add(x, seen, "setAgreed", person, true);
                isRecovered = !Calls.isThrown(add(x, seen, "recover", secret));
            }
        }
    }

    private static void look(Object x, StringBuilder seen) {
        for (String name : new String[] {"state", "fallbacks", "entries", "openShare", "meanVersion"}) {
            add(x, seen, name);
        }
        for (int index = 0; index < LONGEST_LOG; index++) {
            add(x, seen, "entry", index);
        }
        for (int register = 0; register < REGISTERS; register++) {
            add(x, seen, "register", register);
            add(x, seen, "registerByLog", register);
            add(x, seen, "forecast", register);
        }
        for (int stage = 0; stage < STAGES; stage++) {
            add(x, seen, "active", stage);
            add(x, seen, "counter", stage);
            add(x, seen, "runsFrom", stage);
            for (int slot = 0; slot < 2; slot++) {
                add(x, seen, "version", stage, slot);
                add(x, seen, "reason", stage, slot);
            }
        }
        for (int secret = 0; secret < SECRETS; secret++) {
            add(x, seen, "opens", secret);
            add(x, seen, "isLost", secret);
            add(x, seen, "nextOpen", secret);
        }
    }

    private static String add(Object x, StringBuilder seen, String name, Object... arguments) {
        String answer = Calls.answer(x, name, arguments);
        seen.append(name).append(Arrays.toString(arguments)).append('=').append(answer).append('\n');
        return answer;
    }
}
