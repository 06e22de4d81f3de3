import java.lang.reflect.Method;
import java.util.Arrays;
import java.util.Set;
import java.util.TreeSet;

/**
 * Long runs of calls on new objects, each answer held against ChainModel. The numbers come from a fixed row, so that
 * every run of the test makes the same calls. It fails too if some kind of answer never came up, as it would not have
 * tested that one.
 */
public final class RunsTest {
    private static final int OBJECTS = 3000;
    private static final int CALLS = 512;
    private static final int[] EXTREMES = {Integer.MIN_VALUE, -1, 13, 100, 1000, Integer.MAX_VALUE};
    /** Measures of a few kinds only, so that registers come to the values that they had before. */
    private static final int[] MEASURES = {0, 1, 999, 500};

    private final Check check = new Check();
    private final Set<String> kinds = new TreeSet<>();
    private StartChain chain = null;
    private ChainModel model = null;
    private int calls = 0;
    private long row = 20261119L;

    public static void main(String[] args) {
        new RunsTest().run();
    }

    private void run() {
        for (int object = 0; object < OBJECTS; object++) {
            runObject(object);
        }
        checkKinds();
        check.finish();
    }

    private void runObject(int object) {
        chain = new StartChain();
        model = new ChainModel();
        calls = 0;
        // A third of the objects meets wild calls alone; the others begin as machines that can run.
        boolean isWild = object % 3 == 0;
        if (!isWild) {
            prepare();
        }
        while (calls < CALLS) {
            Method method = Calls.FACE.get(choose(Calls.FACE.size()));
            Object[] arguments = arguments(method, isWild ? 6 : 60);
            if (isWild || !isLeftOut(method.getName(), arguments)) {
                compare(method, arguments);
            }
        }
    }

    private void prepare() {
        compare(Calls.named("setTrusted"), 1, true);
        compare(Calls.named("setTrusted"), 2, true);
        int stages = 1 + choose(6);
        for (int stage = 0; stage < stages; stage++) {
            compare(Calls.named("addStage"), choose(3));
            compare(Calls.named("install"), stage, 1 + choose(2), 1 + choose(10), MEASURES[choose(MEASURES.length)]);
        }
        compare(Calls.named("start"));
    }

    /** Calls that end runs are left out mostly, as there would hardly be a machine that runs for the others. */
    private boolean isLeftOut(String method, Object[] arguments) {
        switch (method) {
            case "setTrusted":
                return !(boolean) arguments[1] && choose(8) > 0;
            case "setBad":
                return (boolean) arguments[2] && choose(4) > 0;
            case "setAgreed":
                return !(boolean) arguments[1] && choose(2) > 0;
            case "addStage":
                return choose(40) > 0;
            case "seal":
                return choose(2) > 0;
            case "commit":
                return choose(4) > 0;
            case "stop":
                return model.state() == 'r' && choose(4) > 0;
            default:
                return false;
        }
    }

    private void compare(Method method, Object... arguments) {
        calls++;
        String got = Calls.answer(chain, method, arguments);
        String due = Calls.answer(model, method, arguments);
        check.same("call " + calls + ": " + method.getName() + Arrays.toString(arguments), due, got);
        kinds.add(method.getName() + " " + kindOf(due));
    }

    private static String kindOf(String answer) {
        return Calls.isThrown(answer) || answer.length() == 1 || Character.isLetter(answer.charAt(0))
                ? answer : "number";
    }

    private Object[] arguments(Method method, int wildness) {
        Class<?>[] types = method.getParameterTypes();
        Object[] arguments = new Object[types.length];
        for (int i = 0; i < types.length; i++) {
            if (types[i] == boolean.class) {
                arguments[i] = choose(2) == 0;
            } else if (choose(wildness) == 0) {
                arguments[i] = EXTREMES[choose(EXTREMES.length)];
            } else {
                arguments[i] = number(method.getName(), i);
            }
        }
        return arguments;
    }

    /** A number that is mostly in range, now and then one beyond it. */
    private int number(String method, int index) {
        switch (method + index) {
            case "setTrusted0":
                return choose(4) == 0 ? choose(11) : 1 + choose(2);
            case "install1":
                return choose(12) == 0 ? choose(11) : 1 + choose(2);
            case "install2":
                // Versions rise with the calls, or the counters would soon stop every stage.
                return choose(12) == 0 ? choose(101) : 1 + calls / 6 + choose(6);
            case "install3":
                return MEASURES[choose(MEASURES.length)];
            case "install0": case "setBad0": case "version0": case "active0": case "reason0": case "counter0":
            case "runsFrom0":
                return choose(choose(2) == 0 ? 7 : 2);
            case "setBad1": case "version1": case "reason1":
                return choose(20) == 0 ? 2 : choose(2);
            case "addStage0": case "register0": case "registerByLog0": case "forecast0":
                return choose(20) == 0 ? 3 : choose(3);
            case "entry0":
                return choose(14) - 1;
            case "seal0":
                return choose(9);
            case "seal1":
                return choose(7);
            case "setAgreed0":
                return choose(6);
            case "sealAhead0": case "opens0": case "isLost0": case "recover0":
                return choose(choose(4) == 0 ? 10 : 4);
            case "nextOpen0":
                return choose(11) - 1;
            default:
                throw new IllegalStateException("no numbers for " + method + index);
        }
    }

    private void checkKinds() {
        for (Method method : Calls.FACE) {
            for (Class<?> kind : method.getExceptionTypes()) {
                needKind(method.getName() + " throws " + kind.getSimpleName());
            }
            if (method.getReturnType() == boolean.class) {
                needKind(method.getName() + " true");
                needKind(method.getName() + " false");
            }
        }
        for (String kind : new String[] {"reason e", "reason k", "reason v", "reason b", "reason -", "state o",
            "state r", "state h", "stop 0", "stop 6", "commit 0", "commit 2", "sealAhead 0", "sealAhead 1",
            "sealAhead 2", "recover 1", "recover 4", "setAgreed 0", "setAgreed 5", "seal 7", "nextOpen 7",
            "runsFrom 0", "runsFrom 1", "openShare number", "meanVersion number"}) {
            needKind(kind);
        }
    }

    private void needKind(String kind) {
        check.same("came up: " + kind, true, kinds.contains(kind));
    }

    private int choose(int below) {
        row = row * 6364136223846793005L + 1442695040888963407L;
        return (int) ((row >>> 33) % below);
    }
}
