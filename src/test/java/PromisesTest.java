import java.util.NoSuchElementException;

/** Each promise of the document by itself: ordinary inputs, edges, wrong inputs, and which exception comes first. */
public final class PromisesTest {
    private static final Class<IllegalArgumentException> ARGUMENT = IllegalArgumentException.class;
    private static final Class<IllegalStateException> STATE = IllegalStateException.class;
    private static final Class<IndexOutOfBoundsException> INDEX = IndexOutOfBoundsException.class;
    private static final Class<NoSuchElementException> NO_ELEMENT = NoSuchElementException.class;
    private static final Class<ArithmeticException> ARITHMETIC = ArithmeticException.class;
    private static final Class<UnsupportedOperationException> UNSUPPORTED = UnsupportedOperationException.class;
    private static final int[] EXTREMES = {Integer.MIN_VALUE, Integer.MIN_VALUE + 1, -1000000, -2, -1,
        1000, 1000000, Integer.MAX_VALUE - 1, Integer.MAX_VALUE};

    private final Check check = new Check();

    public static void main(String[] args) {
        new PromisesTest().run();
    }

    private void run() {
        newObject();
        setTrusted();
        addStage();
        addStageWhenOffOnly();
        install();
        installWrong();
        installWhileRunning();
        setBad();
        version();
        active();
        reason();
        reasonIsTheFirst();
        counter();
        start();
        startTriesActiveThenOther();
        startPassesOver();
        startHalts();
        startEmptiesRegisters();
        stop();
        commit();
        commitUsesTheStartedVersion();
        state();
        runsFrom();
        fallbacks();
        register();
        registerRemainder();
        registerByLog();
        forecast();
        forecastChangesNothing();
        entries();
        entry();
        seal();
        sealToPresentValues();
        sealAhead();
        sealAheadOfHalt();
        opens();
        isLost();
        nextOpen();
        setAgreed();
        recover();
        recoverWrong();
        openShare();
        meanVersion();
        check.finish();
    }

    // ---- machines to start from

    /** Two stages: stage 0 on register 0 with key 1, version 5, measure 100; stage 1 on register 1 with 2, 3, 200. */
    private static StartChain twoStages() {
        StartChain x = new StartChain();
        x.setTrusted(1, true);
        x.setTrusted(2, true);
        x.addStage(0);
        x.addStage(1);
        x.install(0, 1, 5, 100);
        x.install(1, 2, 3, 200);
        return x;
    }

    private static StartChain twoRunning() {
        StartChain x = twoStages();
        x.start();
        return x;
    }

    /** As twoStages, but stage 1 has no slot that would run, so that a start halts there. */
    private static StartChain twoHalting() {
        StartChain x = twoStages();
        x.setTrusted(2, false);
        return x;
    }

    private static void restart(StartChain x) {
        x.stop();
        x.start();
    }

    // ---- promise 1

    private void newObject() {
        StartChain x = new StartChain();
        check.same("new: state", 'o', x.state());
        check.same("new: entries", 0, x.entries());
        check.same("new: fallbacks", 0, x.fallbacks());
        for (int r = 0; r < 3; r++) {
            check.same("new: register", 0, x.register(r));
            check.same("new: registerByLog", 0, x.registerByLog(r));
        }
        check.raises("new: active(0)", INDEX, () -> x.active(0));
        check.raises("new: opens(0)", INDEX, () -> x.opens(0));
        check.raises("new: nextOpen(0)", NO_ELEMENT, () -> x.nextOpen(0));
        for (int key = 1; key <= 9; key++) {
            check.same("new: no key is trusted", false, x.setTrusted(key, false));
        }
        check.same("new: nobody agrees", 0, x.setAgreed(0, false));
        StartChain other = new StartChain();
        other.addStage(0);
        check.raises("new: objects are apart", INDEX, () -> x.active(0));
    }

    // ---- promise 2

    private void setTrusted() {
        StartChain x = new StartChain();
        for (int key = 1; key <= 9; key++) {
            check.same("setTrusted first", false, x.setTrusted(key, true));
            check.same("setTrusted again", true, x.setTrusted(key, true));
            check.same("setTrusted off", true, x.setTrusted(key, false));
            check.same("setTrusted was off", false, x.setTrusted(key, false));
        }
        x.setTrusted(3, true);
        check.same("setTrusted: another key", false, x.setTrusted(4, false));
        for (int key : new int[] {0, 10, -1, Integer.MIN_VALUE, Integer.MAX_VALUE}) {
            check.raises("setTrusted no key", ARGUMENT, () -> x.setTrusted(key, true));
        }
        StartChain y = twoRunning();
        y.setTrusted(1, false);
        check.same("setTrusted: what runs runs on", 'r', y.state());
        y.stop();
        check.same("setTrusted: the next start halts", false, y.start());
    }

    // ---- promise 3

    private void addStage() {
        StartChain x = new StartChain();
        for (int register : new int[] {3, -1, Integer.MIN_VALUE, Integer.MAX_VALUE}) {
            check.raises("addStage no register", ARGUMENT, () -> x.addStage(register));
        }
        for (int i = 0; i < 6; i++) {
            check.same("addStage number", i, x.addStage(i % 3));
            check.same("addStage active", 0, x.active(i));
            check.same("addStage counter", 0, x.counter(i));
            check.same("addStage slot 0", 'e', x.reason(i, 0));
            check.same("addStage slot 1", 'e', x.reason(i, 1));
        }
        check.raises("addStage a seventh", STATE, () -> x.addStage(0));
        check.raises("addStage: register first", ARGUMENT, () -> x.addStage(3));
        check.raises("addStage: none came", INDEX, () -> x.active(6));
    }

    private void addStageWhenOffOnly() {
        StartChain x = twoRunning();
        check.raises("addStage while running", STATE, () -> x.addStage(0));
        check.raises("addStage while running: register first", ARGUMENT, () -> x.addStage(-1));
        x.stop();
        check.same("addStage behind the others", 2, x.addStage(2));
        check.same("addStage: off still", 'o', x.state());
        check.same("addStage: the new one halts", false, x.start());
        check.raises("addStage while halted", STATE, () -> x.addStage(0));
        x.stop();
        x.install(2, 1, 1, 7);
        check.same("addStage: started last", true, x.start());
        check.same("addStage: log of the new stage", 2007, x.entry(2));
    }

    // ---- promise 4

    private void install() {
        StartChain x = new StartChain();
        x.addStage(0);
        check.same("install into the empty active one", 0, x.install(0, 1, 10, 0));
        check.same("install: active", 0, x.active(0));
        check.same("install into the other", 1, x.install(0, 9, 99, 999));
        check.same("install: active then", 1, x.active(0));
        check.same("install over the first", 0, x.install(0, 2, 30, 5));
        check.same("install: active again", 0, x.active(0));
        check.same("install: version of 0", 30, x.version(0, 0));
        check.same("install: version of 1", 99, x.version(0, 1));
        check.same("install: lowest version", 1, x.install(0, 1, 1, 1));
        check.same("install: version of 1 anew", 1, x.version(0, 1));
        x.setTrusted(1, true);
        x.setBad(0, 1, true);
        check.same("install: 0 is next", 0, x.install(0, 1, 2, 3));
        check.same("install: bad stays", 'b', x.reason(0, 1));
        check.same("install over bad", 1, x.install(0, 1, 2, 3));
        check.same("install: good at first", '-', x.reason(0, 1));
    }

    private void installWrong() {
        StartChain x = twoStages();
        check.raises("install stage 2", INDEX, () -> x.install(2, 1, 1, 5));
        check.raises("install stage -1", INDEX, () -> x.install(-1, 1, 1, 5));
        check.raises("install: stage first", INDEX, () -> x.install(2, 0, 0, -1));
        for (int wrong : EXTREMES) {
            check.raises("install stage " + wrong, INDEX, () -> x.install(wrong, 1, 1, 1));
            check.raises("install key " + wrong, ARGUMENT, () -> x.install(0, wrong, 1, 1));
            check.raises("install version " + wrong, ARGUMENT, () -> x.install(0, 1, wrong, 1));
            check.raises("install measure " + wrong, ARGUMENT, () -> x.install(0, 1, 1, wrong));
        }
        check.raises("install key 0", ARGUMENT, () -> x.install(0, 0, 1, 1));
        check.raises("install key 10", ARGUMENT, () -> x.install(0, 10, 1, 1));
        check.raises("install version 0", ARGUMENT, () -> x.install(0, 1, 0, 1));
        check.raises("install version 100", ARGUMENT, () -> x.install(0, 1, 100, 1));
        check.same("install wrong: active stays", 0, x.active(0));
        check.same("install wrong: 1 is empty", 'e', x.reason(0, 1));
    }

    private void installWhileRunning() {
        StartChain x = twoRunning();
        check.same("install while running", 1, x.install(0, 1, 9, 50));
        check.same("install while running: active", 1, x.active(0));
        check.same("install while running: runs from", 0, x.runsFrom(0));
        check.same("install over what runs", 0, x.install(0, 1, 20, 60));
        check.same("install over what runs: runs from", 0, x.runsFrom(0));
        check.same("install over what runs: mean", 4.0, x.meanVersion());
        check.same("install while running: register", 101, x.register(0));
        check.same("install while running: log", 2, x.entries());
        StartChain y = twoHalting();
        y.start();
        check.same("install while halted", 1, y.install(1, 1, 4, 50));
        check.same("install while halted: halted", 'h', y.state());
        y.stop();
        check.same("install while halted: runs next", true, y.start());
    }

    // ---- promise 5

    private void setBad() {
        StartChain x = twoStages();
        check.same("setBad first", false, x.setBad(0, 0, true));
        check.same("setBad again", true, x.setBad(0, 0, true));
        check.same("setBad reason", 'b', x.reason(0, 0));
        check.same("setBad other stage", '-', x.reason(1, 0));
        check.same("setBad good", true, x.setBad(0, 0, false));
        check.same("setBad was good", false, x.setBad(0, 0, false));
        check.same("setBad good reason", '-', x.reason(0, 0));
        check.raises("setBad empty", NO_ELEMENT, () -> x.setBad(0, 1, true));
        checkStageAndSlot("setBad", (stage, slot) -> x.setBad(stage, slot, true));
        x.install(0, 1, 7, 7);
        check.same("setBad slot 1", false, x.setBad(0, 1, true));
        check.same("setBad slot 0 stays", '-', x.reason(0, 0));
        StartChain y = twoRunning();
        y.setBad(0, 0, true);
        check.same("setBad: what runs runs on", 0, y.runsFrom(0));
    }

    // ---- promise 6

    private void version() {
        StartChain x = twoStages();
        check.same("version(0, 0)", 5, x.version(0, 0));
        check.same("version(1, 0)", 3, x.version(1, 0));
        check.raises("version empty", NO_ELEMENT, () -> x.version(0, 1));
        checkStageAndSlot("version", (stage, slot) -> x.version(stage, slot));
        x.install(0, 1, 99, 7);
        check.same("version(0, 1)", 99, x.version(0, 1));
        check.same("version(0, 0) stays", 5, x.version(0, 0));
        x.setBad(0, 1, true);
        check.same("version of a bad one", 99, x.version(0, 1));
    }

    // ---- promise 7

    private void active() {
        StartChain x = twoStages();
        check.same("active at first", 0, x.active(0));
        x.install(1, 1, 1, 1);
        check.same("active then", 1, x.active(1));
        check.same("active of another stage", 0, x.active(0));
        x.setBad(1, 1, true);
        x.start();
        check.same("active: it fell back", 0, x.runsFrom(1));
        check.same("active after a fall back", 1, x.active(1));
        checkStage("active", stage -> x.active(stage));
    }

    // ---- promise 8

    private void reason() {
        StartChain x = twoStages();
        check.same("reason good", '-', x.reason(0, 0));
        check.same("reason empty", 'e', x.reason(0, 1));
        x.install(0, 1, 5, 1);
        check.same("reason good, active", '-', x.reason(0, 1));
        check.same("reason good, not active", '-', x.reason(0, 0));
        x.setBad(0, 1, true);
        check.same("reason bad", 'b', x.reason(0, 1));
        check.same("reason of the other", '-', x.reason(0, 0));
        x.setTrusted(1, false);
        check.same("reason key", 'k', x.reason(0, 0));
        x.setTrusted(1, true);
        checkStageAndSlot("reason", (stage, slot) -> x.reason(stage, slot));
        StartChain y = twoRunning();
        y.commit();
        check.same("reason: as great as the counter", '-', y.reason(0, 0));
        y.install(0, 1, 4, 1);
        check.same("reason: less than the counter", 'v', y.reason(0, 1));
        y.install(1, 1, 4, 1);
        check.same("reason: counter of its own stage", '-', y.reason(1, 1));
    }

    private void reasonIsTheFirst() {
        StartChain x = twoRunning();
        x.commit();
        x.install(0, 3, 4, 1);
        x.setBad(0, 1, true);
        check.same("reason: key before version and bad", 'k', x.reason(0, 1));
        x.setTrusted(3, true);
        check.same("reason: version before bad", 'v', x.reason(0, 1));
        x.install(0, 3, 5, 1);
        x.install(0, 3, 5, 1);
        x.setBad(0, 1, true);
        check.same("reason: bad last", 'b', x.reason(0, 1));
    }

    // ---- promise 9

    private void counter() {
        StartChain x = twoRunning();
        check.same("counter at first", 0, x.counter(0));
        x.commit();
        check.same("counter of 0", 5, x.counter(0));
        check.same("counter of 1", 3, x.counter(1));
        x.stop();
        check.same("counter when off", 5, x.counter(0));
        checkStage("counter", stage -> x.counter(stage));
    }

    // ---- promise 10

    private void start() {
        StartChain none = new StartChain();
        check.raises("start without stages", STATE, () -> none.start());
        check.same("start without stages: off", 'o', none.state());
        StartChain x = twoStages();
        check.same("start", true, x.start());
        check.same("start: runs", 'r', x.state());
        check.raises("start again", STATE, () -> x.start());
        check.same("start again: log stays", 2, x.entries());
        StartChain y = twoHalting();
        check.same("start halts", false, y.start());
        check.raises("start when halted", STATE, () -> y.start());
        check.same("start when halted: halted", 'h', y.state());
        StartChain z = twoStages();
        z.install(0, 1, 1, 1);
        z.install(0, 1, 1, 1);
        z.start();
        check.same("start: both good, from the active one", 0, z.runsFrom(0));
        check.same("start: both good, one measure", 2, z.entries());
    }

    private void startTriesActiveThenOther() {
        StartChain x = twoStages();
        x.install(0, 1, 9, 300);
        x.setBad(0, 1, true);
        check.same("start: bad, then good", true, x.start());
        check.same("start: runs from the other", 0, x.runsFrom(0));
        check.same("start: the bad one is measured", 300, x.entry(0));
        check.same("start: then the good one", 100, x.entry(1));
        check.same("start: then the next stage", 1200, x.entry(2));
        check.same("start: three measures", 3, x.entries());
        check.same("start: folded in order", (31 * 301 + 101) % 9973, x.register(0));
        x.stop();
        x.setBad(0, 0, true);
        check.same("start: both bad", false, x.start());
        check.same("start: both are measured", 2, x.entries());
        check.same("start: the active one first", 300, x.entry(0));
        check.same("start: none runs", 0, x.stop());
    }

    private void startPassesOver() {
        StartChain x = twoStages();
        x.install(0, 3, 9, 300);
        check.same("start: untrusted, then good", true, x.start());
        check.same("start: untrusted is not measured", 2, x.entries());
        check.same("start: runs from the trusted one", 0, x.runsFrom(0));
        x.commit();
        x.install(1, 2, 2, 400);
        x.stop();
        check.same("start: old version, then good", true, x.start());
        check.same("start: old version is not measured", 2, x.entries());
        check.same("start: runs from the newer one", 0, x.runsFrom(1));
        x.setBad(1, 1, true);
        restart(x);
        check.same("start: old and bad is not measured", 2, x.entries());
        StartChain y = new StartChain();
        y.addStage(0);
        check.same("start: both empty", false, y.start());
        check.same("start: empty is not measured", 0, y.entries());
    }

    private void startHalts() {
        StartChain x = twoStages();
        x.addStage(2);
        x.install(2, 1, 1, 7);
        x.setTrusted(2, false);
        check.same("start halts at stage 1", false, x.start());
        check.same("start: stages behind are not started", 1, x.entries());
        check.same("start: register behind", 0, x.register(2));
        check.same("start: stage ahead runs", 0, x.runsFrom(0));
        check.raises("start: stage behind does not run", NO_ELEMENT, () -> x.runsFrom(2));
    }

    private void startEmptiesRegisters() {
        StartChain x = twoRunning();
        restart(x);
        check.same("start again: register 0", 101, x.register(0));
        check.same("start again: register 1", 201, x.register(1));
        check.same("start again: log", 2, x.entries());
        x.stop();
        x.setTrusted(1, false);
        x.start();
        check.same("start that halts at once: register 0", 0, x.register(0));
        check.same("start that halts at once: register 1", 0, x.register(1));
        check.same("start that halts at once: log", 0, x.entries());
    }

    // ---- promise 11

    private void stop() {
        StartChain x = twoStages();
        check.raises("stop when off", STATE, () -> x.stop());
        x.start();
        check.same("stop", 2, x.stop());
        check.same("stop: off", 'o', x.state());
        check.raises("stop again", STATE, () -> x.stop());
        check.same("stop: register stays", 101, x.register(0));
        check.same("stop: log stays", 2, x.entries());
        check.same("stop: entry stays", 1200, x.entry(1));
        x.setTrusted(2, false);
        x.start();
        check.same("stop when halted", 1, x.stop());
        check.same("stop when halted: off", 'o', x.state());
        x.setTrusted(1, false);
        x.start();
        check.same("stop when halted at once", 0, x.stop());
    }

    // ---- promise 12

    private void commit() {
        StartChain x = twoStages();
        check.raises("commit when off", STATE, () -> x.commit());
        x.start();
        check.same("commit both", 2, x.commit());
        check.same("commit again", 0, x.commit());
        x.install(0, 1, 6, 1);
        x.install(1, 2, 3, 1);
        restart(x);
        check.same("commit one", 1, x.commit());
        check.same("commit: raised", 6, x.counter(0));
        check.same("commit: same", 3, x.counter(1));
        x.stop();
        check.raises("commit after stop", STATE, () -> x.commit());
        StartChain y = twoHalting();
        y.start();
        check.raises("commit when halted", STATE, () -> y.commit());
        check.same("commit when halted: counter", 0, y.counter(0));
    }

    private void commitUsesTheStartedVersion() {
        StartChain x = twoRunning();
        x.install(0, 1, 50, 1);
        x.install(0, 1, 60, 1);
        check.same("commit the versions started", 2, x.commit());
        check.same("commit: not what is installed later", 5, x.counter(0));
        x.install(0, 1, 2, 1);
        x.install(0, 1, 3, 1);
        check.same("commit: nothing greater", 0, x.commit());
        check.same("commit: never lower", 5, x.counter(0));
    }

    // ---- promise 13

    private void state() {
        StartChain x = twoStages();
        check.same("state off", 'o', x.state());
        x.start();
        check.same("state running", 'r', x.state());
        x.stop();
        check.same("state stopped", 'o', x.state());
        x.setTrusted(2, false);
        x.start();
        check.same("state halted", 'h', x.state());
        x.setTrusted(2, true);
        check.same("state halted still", 'h', x.state());
        x.stop();
        check.same("state stopped again", 'o', x.state());
    }

    // ---- promise 14

    private void runsFrom() {
        StartChain x = twoStages();
        check.raises("runsFrom when off", NO_ELEMENT, () -> x.runsFrom(0));
        check.raises("runsFrom when off: stage first", INDEX, () -> x.runsFrom(2));
        x.install(1, 2, 3, 200);
        x.start();
        check.same("runsFrom(0)", 0, x.runsFrom(0));
        check.same("runsFrom(1)", 1, x.runsFrom(1));
        checkStage("runsFrom", stage -> x.runsFrom(stage));
        x.stop();
        check.raises("runsFrom after stop", NO_ELEMENT, () -> x.runsFrom(0));
        x.setTrusted(2, false);
        x.start();
        check.same("runsFrom when halted", 0, x.runsFrom(0));
        check.raises("runsFrom where it halted", NO_ELEMENT, () -> x.runsFrom(1));
        checkStage("runsFrom when halted", stage -> x.runsFrom(stage));
    }

    // ---- promise 15

    private void fallbacks() {
        StartChain x = twoStages();
        x.start();
        check.same("fallbacks: none", 0, x.fallbacks());
        x.install(0, 3, 9, 300);
        x.install(1, 3, 9, 300);
        check.same("fallbacks: not by an install", 0, x.fallbacks());
        restart(x);
        check.same("fallbacks: two stages", 2, x.fallbacks());
        x.forecast(0);
        check.same("fallbacks: not by a forecast", 2, x.fallbacks());
        x.setTrusted(2, false);
        restart(x);
        check.same("fallbacks: also when it halts later", 3, x.fallbacks());
        x.setTrusted(3, true);
        restart(x);
        check.same("fallbacks: from the active ones", 3, x.fallbacks());
        x.setBad(0, 1, true);
        restart(x);
        check.same("fallbacks: slot 1 is bad", 4, x.fallbacks());
        x.stop();
        check.same("fallbacks when off", 4, x.fallbacks());
        StartChain y = new StartChain();
        y.setTrusted(1, true);
        y.addStage(0);
        y.install(0, 1, 1, 1);
        y.install(0, 1, 1, 1);
        y.start();
        check.same("fallbacks: the active slot 1", 0, y.fallbacks());
    }

    // ---- promise 16

    private void register() {
        StartChain x = twoRunning();
        check.same("register(0)", 101, x.register(0));
        check.same("register(1)", 201, x.register(1));
        check.same("register(2)", 0, x.register(2));
        for (int wrong : new int[] {3, -1, Integer.MIN_VALUE, Integer.MAX_VALUE}) {
            check.raises("register " + wrong, INDEX, () -> x.register(wrong));
        }
        StartChain y = twoHalting();
        y.start();
        check.same("register when halted", 101, y.register(0));
        y.stop();
        check.same("register when off", 101, y.register(0));
    }

    private void registerRemainder() {
        StartChain x = manyMeasures();
        int value = 0;
        for (int i = 0; i < 6; i++) {
            value = (31 * value + 999 + 1) % 9973;
        }
        check.same("register: remainder", value, x.register(1));
        check.same("registerByLog: remainder", value, x.registerByLog(1));
        check.same("register: another", 0, x.register(0));
        StartChain y = new StartChain();
        y.setTrusted(1, true);
        y.addStage(2);
        y.install(0, 1, 1, 0);
        y.start();
        check.same("register: measure 0", 1, y.register(2));
        check.same("entry: measure 0", 2000, y.entry(0));
    }

    /** Six stages on register 1, each with the measure 999. */
    private static StartChain manyMeasures() {
        StartChain x = new StartChain();
        x.setTrusted(1, true);
        for (int i = 0; i < 6; i++) {
            x.addStage(1);
            x.install(i, 1, i + 1, 999);
        }
        x.start();
        return x;
    }

    // ---- promise 17

    private void registerByLog() {
        StartChain x = twoStages();
        x.install(0, 1, 5, 999);
        x.setBad(0, 1, true);
        check.same("registerByLog before a start", 0, x.registerByLog(0));
        x.start();
        for (int r = 0; r < 3; r++) {
            check.same("registerByLog", x.register(r), x.registerByLog(r));
        }
        check.same("registerByLog(0)", (31 * 1000 + 101) % 9973, x.registerByLog(0));
        for (int wrong : new int[] {3, -1, Integer.MIN_VALUE, Integer.MAX_VALUE}) {
            check.raises("registerByLog " + wrong, INDEX, () -> x.registerByLog(wrong));
        }
        x.stop();
        check.same("registerByLog(1) when off", 201, x.registerByLog(1));
        x.start();
        restart(x);
        check.same("registerByLog(1) of the last start alone", 201, x.registerByLog(1));
    }

    // ---- promise 18

    private void forecast() {
        StartChain none = new StartChain();
        check.raises("forecast without stages", STATE, () -> none.forecast(0));
        check.raises("forecast without stages: register first", INDEX, () -> none.forecast(3));
        StartChain x = twoStages();
        check.same("forecast(0) when off", 101, x.forecast(0));
        check.same("forecast(1) when off", 201, x.forecast(1));
        check.same("forecast(2) when off", 0, x.forecast(2));
        for (int wrong : new int[] {3, -1, Integer.MIN_VALUE, Integer.MAX_VALUE}) {
            check.raises("forecast " + wrong, INDEX, () -> x.forecast(wrong));
        }
        x.start();
        check.same("forecast while running is from the start on", 101, x.forecast(0));
        x.setTrusted(2, false);
        check.same("forecast if it would halt", 101, x.forecast(0));
        check.same("forecast where it would halt", 0, x.forecast(1));
        x.setTrusted(2, true);
        x.setBad(1, 0, true);
        check.same("forecast of a bad one", 201, x.forecast(1));
        x.setTrusted(1, false);
        check.same("forecast behind a halt", 0, x.forecast(1));
        StartChain empty = new StartChain();
        empty.addStage(0);
        check.same("forecast of an empty stage", 0, empty.forecast(0));
    }

    private void forecastChangesNothing() {
        StartChain x = twoRunning();
        x.install(0, 1, 8, 500);
        check.same("forecast of the new one", 501, x.forecast(0));
        check.same("forecast: register stays", 101, x.register(0));
        check.same("forecast: registerByLog stays", 101, x.registerByLog(0));
        check.same("forecast: log stays", 2, x.entries());
        check.same("forecast: entry stays", 100, x.entry(0));
        check.same("forecast: runs from", 0, x.runsFrom(0));
        check.same("forecast: mean", 4.0, x.meanVersion());
        x.setTrusted(1, false);
        x.forecast(0);
        check.same("forecast: runs still", 'r', x.state());
        check.same("forecast: stages that ran", 2, x.stop());
        x.setTrusted(1, true);
        x.forecast(0);
        check.same("forecast: off still", 'o', x.state());
        check.same("forecast when off: register stays", 101, x.register(0));
        x.start();
        check.same("forecast comes true", 501, x.register(0));
    }

    // ---- promise 19

    private void entries() {
        StartChain x = twoStages();
        check.same("entries before a start", 0, x.entries());
        x.start();
        check.same("entries", 2, x.entries());
        restart(x);
        check.same("entries are made empty", 2, x.entries());
        StartChain y = new StartChain();
        y.setTrusted(1, true);
        for (int i = 0; i < 6; i++) {
            y.addStage(i % 3);
            y.install(i, 1, 1, i);
            y.install(i, 1, 1, 10 + i);
            y.setBad(i, 1, true);
        }
        y.start();
        check.same("entries at most", 12, y.entries());
        for (int i = 0; i < 6; i++) {
            check.same("entry of the bad one", 1000 * (i % 3) + 10 + i, y.entry(2 * i));
            check.same("entry of the good one", 1000 * (i % 3) + i, y.entry(2 * i + 1));
        }
        check.raises("entry behind the last", INDEX, () -> y.entry(12));
        check.same("fallbacks of six", 6, y.fallbacks());
    }

    // ---- promise 20

    private void entry() {
        StartChain x = twoStages();
        check.raises("entry of an empty log", INDEX, () -> x.entry(0));
        x.start();
        check.same("entry(0)", 100, x.entry(0));
        check.same("entry(1)", 1200, x.entry(1));
        for (int wrong : new int[] {2, 11, 12, -1, Integer.MIN_VALUE, Integer.MAX_VALUE}) {
            check.raises("entry " + wrong, INDEX, () -> x.entry(wrong));
        }
        x.install(0, 1, 5, 999);
        check.same("entry is kept", 100, x.entry(0));
        x.stop();
        check.same("entry when off", 1200, x.entry(1));
        x.setTrusted(2, false);
        x.start();
        check.raises("entry of an earlier start", INDEX, () -> x.entry(1));
        check.same("entry of this start", 999, x.entry(0));
    }

    // ---- promise 21

    private void seal() {
        StartChain x = twoStages();
        check.raises("seal when off", STATE, () -> x.seal(1, 1));
        check.raises("seal when off: registers first", ARGUMENT, () -> x.seal(0, 1));
        x.start();
        for (int wrong : new int[] {0, 8, -1, Integer.MIN_VALUE, Integer.MAX_VALUE}) {
            check.raises("seal registers " + wrong, ARGUMENT, () -> x.seal(wrong, 1));
        }
        for (int wrong : new int[] {0, 6, -1, Integer.MIN_VALUE, Integer.MAX_VALUE}) {
            check.raises("seal people " + wrong, ARGUMENT, () -> x.seal(1, wrong));
        }
        check.raises("seal wrong: no secret came", INDEX, () -> x.opens(0));
        for (int i = 0; i < 8; i++) {
            check.same("seal number", i, x.seal(Math.min(i + 1, 7), i % 5 + 1));
        }
        check.raises("seal a ninth", STATE, () -> x.seal(1, 1));
        check.raises("seal a ninth: people first", ARGUMENT, () -> x.seal(1, 6));
        check.raises("seal a ninth: none came", INDEX, () -> x.opens(8));
        StartChain y = twoHalting();
        y.start();
        check.raises("seal when halted", STATE, () -> y.seal(1, 1));
    }

    private void sealToPresentValues() {
        StartChain x = twoRunning();
        for (int registers = 1; registers <= 7; registers++) {
            x.seal(registers, 1);
        }
        x.install(0, 1, 5, 101);
        restart(x);
        for (int registers = 1; registers <= 7; registers++) {
            check.same("seal: register 0 differs, " + registers, (registers & 1) == 0, x.opens(registers - 1));
        }
        x.install(0, 1, 5, 100);
        x.install(1, 2, 3, 201);
        restart(x);
        for (int registers = 1; registers <= 7; registers++) {
            check.same("seal: register 1 differs, " + registers, (registers & 2) == 0, x.opens(registers - 1));
        }
        x.install(1, 2, 3, 200);
        x.stop();
        x.addStage(2);
        x.install(2, 1, 1, 0);
        x.start();
        for (int registers = 1; registers <= 7; registers++) {
            check.same("seal: register 2 differs, " + registers, (registers & 4) == 0, x.opens(registers - 1));
        }
    }

    // ---- promise 22

    private void sealAhead() {
        StartChain x = twoRunning();
        x.seal(7, 1);
        x.seal(2, 1);
        check.same("sealAhead to the same", 0, x.sealAhead(0));
        check.same("sealAhead to the same: opens", true, x.opens(0));
        x.install(0, 1, 6, 111);
        check.same("sealAhead: one differs", 1, x.sealAhead(0));
        check.same("sealAhead: opens no more", false, x.opens(0));
        check.same("sealAhead: not lost", false, x.isLost(0));
        check.raises("sealAhead again", STATE, () -> x.sealAhead(0));
        check.same("sealAhead: another secret stays", true, x.opens(1));
        check.same("sealAhead: its register alone", 0, x.sealAhead(1));
        restart(x);
        check.same("sealAhead: opens then", true, x.opens(0));
        x.install(0, 1, 6, 112);
        x.install(1, 2, 3, 202);
        x.setTrusted(3, true);
        check.same("sealAhead: two differ", 2, x.sealAhead(0));
        check.same("sealAhead: one of one differs", 1, x.sealAhead(1));
        x.stop();
        check.raises("sealAhead when off", STATE, () -> x.sealAhead(0));
        x.start();
        check.same("sealAhead: both open 0", true, x.opens(0));
        check.same("sealAhead: both open 1", true, x.opens(1));
        checkSecret("sealAhead", 2, secret -> x.sealAhead(secret));
    }

    private void sealAheadOfHalt() {
        StartChain x = twoRunning();
        x.seal(3, 1);
        x.setTrusted(2, false);
        check.same("sealAhead of a halt", 1, x.sealAhead(0));
        check.same("sealAhead of a halt: lost", true, x.isLost(0));
        restart(x);
        check.same("sealAhead of a halt: does not open", false, x.opens(0));
        check.raises("sealAhead when halted", STATE, () -> x.sealAhead(0));
        x.setTrusted(2, true);
        restart(x);
        check.same("sealAhead of a halt: not as before", false, x.opens(0));
    }

    // ---- promise 23

    private void opens() {
        StartChain x = twoRunning();
        x.seal(1, 1);
        x.seal(2, 1);
        check.same("opens(0)", true, x.opens(0));
        check.same("opens(1)", true, x.opens(1));
        checkSecret("opens", 2, secret -> x.opens(secret));
        x.install(1, 2, 3, 300);
        check.same("opens: the present values", true, x.opens(1));
        x.stop();
        check.same("opens when off", false, x.opens(0));
        x.start();
        check.same("opens: its own register", true, x.opens(0));
        check.same("opens: its register differs", false, x.opens(1));
        x.setTrusted(2, false);
        restart(x);
        check.same("opens when halted", false, x.opens(0));
    }

    // ---- promise 24

    private void isLost() {
        StartChain x = twoRunning();
        x.seal(1, 1);
        x.seal(2, 1);
        check.same("isLost(0)", false, x.isLost(0));
        x.install(1, 2, 3, 300);
        check.same("isLost: its own register", false, x.isLost(0));
        check.same("isLost: its register differs", true, x.isLost(1));
        check.same("isLost: opens now", true, x.opens(1));
        x.install(1, 2, 3, 200);
        check.same("isLost: measure as before", false, x.isLost(1));
        x.stop();
        check.same("isLost when off", false, x.isLost(0));
        x.setTrusted(2, false);
        check.same("isLost: it would halt", true, x.isLost(0));
        x.start();
        check.same("isLost when halted", true, x.isLost(0));
        x.setTrusted(2, true);
        check.same("isLost: it would run again", false, x.isLost(0));
        check.same("isLost: halted still", 'h', x.state());
        checkSecret("isLost", 2, secret -> x.isLost(secret));
        x.stop();
        x.addStage(2);
        check.same("isLost: a new stage would halt", true, x.isLost(0));
        x.install(2, 1, 1, 1);
        check.same("isLost: a new stage would run", false, x.isLost(0));
    }

    // ---- promise 25

    private void nextOpen() {
        StartChain x = twoRunning();
        check.raises("nextOpen without secrets", NO_ELEMENT, () -> x.nextOpen(0));
        x.seal(1, 1);
        x.seal(2, 1);
        x.seal(1, 1);
        check.same("nextOpen(0)", 0, x.nextOpen(0));
        check.same("nextOpen(1)", 1, x.nextOpen(1));
        check.same("nextOpen(2)", 2, x.nextOpen(2));
        check.same("nextOpen(-1)", 0, x.nextOpen(-1));
        check.same("nextOpen(MIN)", 0, x.nextOpen(Integer.MIN_VALUE));
        check.raises("nextOpen(3)", NO_ELEMENT, () -> x.nextOpen(3));
        check.raises("nextOpen(MAX)", NO_ELEMENT, () -> x.nextOpen(Integer.MAX_VALUE));
        x.install(0, 1, 5, 900);
        restart(x);
        check.same("nextOpen: the first that opens", 1, x.nextOpen(-5));
        check.same("nextOpen: itself", 1, x.nextOpen(1));
        check.raises("nextOpen: none behind", NO_ELEMENT, () -> x.nextOpen(2));
        x.stop();
        check.raises("nextOpen when off", NO_ELEMENT, () -> x.nextOpen(0));
    }

    // ---- promise 26

    private void setAgreed() {
        StartChain x = new StartChain();
        for (int person = 0; person < 5; person++) {
            check.same("setAgreed", person + 1, x.setAgreed(person, true));
            check.same("setAgreed again", person + 1, x.setAgreed(person, true));
        }
        for (int wrong : new int[] {5, -1, Integer.MIN_VALUE, Integer.MAX_VALUE}) {
            check.raises("setAgreed " + wrong, INDEX, () -> x.setAgreed(wrong, false));
        }
        check.same("setAgreed no more", 4, x.setAgreed(2, false));
        check.same("setAgreed no more again", 4, x.setAgreed(2, false));
        check.same("setAgreed once more", 5, x.setAgreed(2, true));
    }

    // ---- promise 27

    private void recover() {
        StartChain x = twoRunning();
        x.seal(3, 2);
        x.seal(2, 5);
        x.install(0, 1, 9, 400);
        x.install(1, 2, 9, 500);
        restart(x);
        x.setAgreed(4, true);
        check.raises("recover: too few", UNSUPPORTED, () -> x.recover(0));
        check.same("recover too few: does not open", false, x.opens(0));
        check.same("recover too few: agreed stays", 2, x.setAgreed(1, true));
        check.same("recover: just enough", 2, x.recover(0));
        check.same("recover: opens", true, x.opens(0));
        check.same("recover: another stays", false, x.opens(1));
        check.same("recover: nobody agrees", 1, x.setAgreed(3, true));
        x.setAgreed(0, true);
        x.setAgreed(1, true);
        x.setAgreed(2, true);
        check.raises("recover: four of five", UNSUPPORTED, () -> x.recover(1));
        x.setAgreed(4, true);
        check.same("recover: five of five", 5, x.recover(1));
        check.same("recover: none of the five agrees", 0, x.setAgreed(4, false));
        x.install(0, 1, 9, 100);
        restart(x);
        check.same("recover: not by what it was before", false, x.opens(0));
        check.same("recover: its own register", true, x.opens(1));
        x.setAgreed(0, true);
        x.setAgreed(1, true);
        x.setAgreed(2, true);
        check.same("recover: more than enough", 3, x.recover(0));
        check.same("recover: nobody agrees any more", 0, x.setAgreed(0, false));
    }

    private void recoverWrong() {
        StartChain x = twoRunning();
        x.seal(1, 1);
        check.raises("recover what opens", STATE, () -> x.recover(0));
        x.setAgreed(0, true);
        check.raises("recover what opens, agreed", STATE, () -> x.recover(0));
        checkSecret("recover", 1, secret -> x.recover(secret));
        x.stop();
        check.raises("recover when off", STATE, () -> x.recover(0));
        checkSecret("recover when off", 1, secret -> x.recover(secret));
        x.setAgreed(0, false);
        check.raises("recover when off: state before people", STATE, () -> x.recover(0));
        x.setAgreed(0, true);
        x.setTrusted(2, false);
        x.start();
        check.raises("recover when halted", STATE, () -> x.recover(0));
        check.same("recover wrong: agreed stays", 2, x.setAgreed(1, true));
    }

    // ---- promise 28

    private void openShare() {
        StartChain x = twoStages();
        check.raises("openShare without secrets", ARITHMETIC, () -> x.openShare());
        x.start();
        check.raises("openShare without secrets, running", ARITHMETIC, () -> x.openShare());
        x.seal(1, 1);
        check.same("openShare 1 of 1", 1.0f, x.openShare());
        x.seal(2, 1);
        x.seal(2, 1);
        x.install(0, 1, 5, 101);
        restart(x);
        check.same("openShare 2 of 3", 2.0f / 3.0f, x.openShare());
        x.install(1, 2, 3, 201);
        x.install(0, 1, 5, 100);
        restart(x);
        check.same("openShare 1 of 3", 1.0f / 3.0f, x.openShare());
        x.stop();
        check.same("openShare when off", 0.0f, x.openShare());
        x.setTrusted(1, false);
        x.start();
        check.same("openShare when halted", 0.0f, x.openShare());
    }

    // ---- promise 29

    private void meanVersion() {
        StartChain none = new StartChain();
        check.raises("meanVersion without stages", ARITHMETIC, () -> none.meanVersion());
        StartChain x = twoStages();
        check.raises("meanVersion before a start", ARITHMETIC, () -> x.meanVersion());
        x.start();
        check.same("meanVersion of 5 and 3", 4.0, x.meanVersion());
        x.install(0, 1, 77, 1);
        check.same("meanVersion: not what is installed later", 4.0, x.meanVersion());
        x.stop();
        check.raises("meanVersion when off", ARITHMETIC, () -> x.meanVersion());
        x.addStage(2);
        x.install(2, 2, 11, 1);
        x.start();
        check.same("meanVersion of three", 91.0 / 3.0, x.meanVersion());
        x.setTrusted(2, false);
        restart(x);
        check.same("meanVersion when halted: those that run", 77.0, x.meanVersion());
        x.setTrusted(1, false);
        restart(x);
        check.raises("meanVersion when halted at once", ARITHMETIC, () -> x.meanVersion());
        check.same("meanVersion of six", 3.5, manyMeasures().meanVersion());
    }

    // ---- what several promises share

    private interface StageCall {
        void on(int stage);
    }

    private interface SlotCall {
        void on(int stage, int slot);
    }

    /** The machine has two stages. */
    private void checkStage(String name, StageCall call) {
        check.raises(name + " stage 2", INDEX, () -> call.on(2));
        check.raises(name + " stage 6", INDEX, () -> call.on(6));
        for (int wrong : EXTREMES) {
            check.raises(name + " stage " + wrong, INDEX, () -> call.on(wrong));
        }
    }

    /** The machine has two stages, and the slot 1 of both may be empty: the index comes before that. */
    private void checkStageAndSlot(String name, SlotCall call) {
        checkStage(name, stage -> call.on(stage, 0));
        checkStage(name, stage -> call.on(stage, 1));
        check.raises(name + " slot 2", INDEX, () -> call.on(0, 2));
        for (int wrong : EXTREMES) {
            check.raises(name + " slot " + wrong, INDEX, () -> call.on(1, wrong));
        }
    }

    private void checkSecret(String name, int secrets, StageCall call) {
        check.raises(name + " secret " + secrets, INDEX, () -> call.on(secrets));
        check.raises(name + " secret 8", INDEX, () -> call.on(8));
        for (int wrong : EXTREMES) {
            check.raises(name + " secret " + wrong, INDEX, () -> call.on(wrong));
        }
    }
}
