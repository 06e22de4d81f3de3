import java.util.NoSuchElementException;

/**
 * The edges that the promises name, promise by promise: the numbers just in range and just out of it, what is empty or
 * full, each 'Throws' line, and which one comes first. What a refused call leaves as it was is held by RefusalsTest.
 */
public final class EdgesTest {
    private static final Class<IllegalArgumentException> ARGUMENT = IllegalArgumentException.class;
    private static final Class<IllegalStateException> STATE = IllegalStateException.class;
    private static final Class<IndexOutOfBoundsException> INDEX = IndexOutOfBoundsException.class;
    private static final Class<NoSuchElementException> NO_ELEMENT = NoSuchElementException.class;
    private static final Class<ArithmeticException> ARITHMETIC = ArithmeticException.class;
    private static final Class<UnsupportedOperationException> UNSUPPORTED = UnsupportedOperationException.class;
    private static final int MIN = Integer.MIN_VALUE;
    private static final int MAX = Integer.MAX_VALUE;
    private static final int STAGES = 6;
    private static final int REGISTERS = 3;
    private static final int SECRETS = 8;
    private static final int PEOPLE = 5;
    private static final boolean[] BOTH = {false, true};

    private final Check check = new Check();

    public static void main(String[] args) {
        new EdgesTest().run();
    }

    private void run() {
        keysStagesAndImages();
        starting();
        registersAndTheLog();
        secrets();
        figures();
        check.finish();
    }

    private void keysStagesAndImages() {
        newIsEmpty();
        noSuchKey();
        trustedBefore();
        noSuchRegisterForStage();
        numberOfTheStage();
        stagesFull();
        notOff();
        installRanges();
        installStageFirst();
        installInEachState();
        badBefore();
        noSuchStageOrSlot();
        slotIsEmpty();
        activeOfNoStage();
        reasonIsTheFirst();
        reasonByTheCounter();
        counterOfNoStage();
    }

    private void starting() {
        startWhenNotOff();
        startReturns();
        stopReturns();
        stopWhenOff();
        commitIfGreater();
        commitAfterFallback();
        commitWhenItDoesNotRun();
        stateSigns();
        runsFromEachSlot();
        runsFromOfNone();
        fallbacksOverAllStarts();
        fallbacksThatAreNone();
    }

    private void registersAndTheLog() {
        noSuchRegister();
        sameByTheLog();
        forecastIfItWouldHalt();
        forecastWithoutStages();
        entriesFewestAndMost();
        noSuchEntry();
        entryOfEachRegister();
    }

    private void secrets() {
        sealRanges();
        sealWhenItDoesNotRun();
        sealWhenFull();
        sealAheadCounts();
        sealAheadIfItWouldHalt();
        sealAheadWhenItDoesNotOpen();
        noSuchSecret();
        nextOpenFromAnyNumber();
        nextOpenOfNone();
        noSuchPerson();
        agreedFewestAndMost();
        recoverNeedsEnough();
        recoverSealsToPresentValues();
        nobodyAgreesAnyMore();
        recoverWhenItDoesNotRunOrOpens();
    }

    private void figures() {
        shareOfEachNumber();
        shareOfNoSecrets();
        meanFewestAndMost();
        meanIfNoneRuns();
    }

    // ---- promise 1

    // "a machine without stages and secrets, which is off"
    private void newIsEmpty() {
        StartChain x = new StartChain();
        check.same("state of a new one", 'o', x.state());
        for (int i = 0; i < STAGES; i++) {
            int stage = i;
            check.raises("stage of a new one", INDEX, () -> x.active(stage));
        }
        for (int i = 0; i < SECRETS; i++) {
            int secret = i;
            check.raises("secret of a new one", INDEX, () -> x.opens(secret));
        }
    }

    // ---- promise 2

    // "IllegalArgumentException if there is no such key"
    private void noSuchKey() {
        StartChain x = new StartChain();
        for (boolean isTrusted : BOTH) {
            for (int key : new int[] {MIN, -9, -1, 0, 10, 11, 99, MAX}) {
                check.raises("setTrusted of key " + key, ARGUMENT, () -> x.setTrusted(key, isTrusted));
            }
            check.same("setTrusted of the first key", false, x.setTrusted(1, false));
            check.same("setTrusted of the last key", false, x.setTrusted(9, false));
        }
    }

    // "Returns whether it was before."
    private void trustedBefore() {
        for (int key = 1; key <= 9; key++) {
            StartChain x = new StartChain();
            boolean before = false;
            for (boolean next : new boolean[] {false, true, true, false, false, true}) {
                check.same("trusted before, key " + key, before, x.setTrusted(key, next));
                before = next;
            }
        }
    }

    // ---- promise 3

    // "IllegalArgumentException if there is no such register"
    private void noSuchRegisterForStage() {
        StartChain x = new StartChain();
        for (int register : new int[] {MIN, -1, 3, 4, 7, MAX}) {
            check.raises("addStage of register " + register, ARGUMENT, () -> x.addStage(register));
        }
        check.same("addStage of the last register", 0, x.addStage(2));
        check.same("addStage of the first register", 1, x.addStage(0));
    }

    // "Adds a stage behind the others. Returns the number of the stage."
    private void numberOfTheStage() {
        StartChain x = Machines.machine(0, 1);
        check.same("number behind two", 2, x.addStage(2));
        check.same("start halts at the new one", false, x.start());
        check.same("those ahead ran", 2, x.stop());
        x.install(2, 1, 1, 10);
        x.start();
        check.same("it is started last", 2010, x.entry(2));
    }

    // "IllegalStateException if there are 6 stages"
    private void stagesFull() {
        StartChain x = new StartChain();
        for (int i = 0; i < STAGES; i++) {
            check.same("number of a stage", i, x.addStage(1));
        }
        for (int register = 0; register < REGISTERS; register++) {
            int wanted = register;
            check.raises("addStage when there are 6", STATE, () -> x.addStage(wanted));
        }
        check.raises("addStage when there are 6, no such register", ARGUMENT, () -> x.addStage(3));
        check.raises("addStage when there are 6, no such register", ARGUMENT, () -> x.addStage(-1));
        check.raises("stage 6", INDEX, () -> x.active(STAGES));
    }

    // "or the machine is not off"
    private void notOff() {
        StartChain x = Machines.running(0);
        check.raises("addStage when it runs", STATE, () -> x.addStage(0));
        check.raises("addStage when it runs, no such register", ARGUMENT, () -> x.addStage(3));
        StartChain y = Machines.halted(0);
        check.raises("addStage when it is halted", STATE, () -> y.addStage(0));
        check.raises("addStage when it is halted, no such register", ARGUMENT, () -> y.addStage(-1));
        x.stop();
        y.stop();
        check.same("addStage when it is stopped", 1, x.addStage(0));
        check.same("addStage when it is stopped after a halt", 1, y.addStage(0));
    }

    // ---- promise 4

    // "IllegalArgumentException if another number is out of range"
    private void installRanges() {
        StartChain x = new StartChain();
        x.addStage(0);
        for (int key : new int[] {MIN, -1, 0, 10, MAX}) {
            check.raises("install of key " + key, ARGUMENT, () -> x.install(0, key, 50, 500));
        }
        for (int version : new int[] {MIN, -1, 0, 100, MAX}) {
            check.raises("install of version " + version, ARGUMENT, () -> x.install(0, 5, version, 500));
        }
        for (int measure : new int[] {MIN, -1, 1000, MAX}) {
            check.raises("install of measure " + measure, ARGUMENT, () -> x.install(0, 5, 50, measure));
        }
        check.raises("install of all out of range", ARGUMENT, () -> x.install(0, 0, 0, -1));
        check.raises("nothing is installed", NO_ELEMENT, () -> x.version(0, 0));
        int slot = 0;
        for (int key : new int[] {1, 9}) {
            for (int version : new int[] {1, 99}) {
                for (int measure : new int[] {0, 999}) {
                    check.same("install in range", slot, x.install(0, key, version, measure));
                    check.same("its version", version, x.version(0, slot));
                    slot = 1 - slot;
                }
            }
        }
    }

    // "IndexOutOfBoundsException if there is no such stage", which is documented first
    private void installStageFirst() {
        StartChain none = new StartChain();
        check.raises("install without stages", INDEX, () -> none.install(0, 1, 1, 0));
        StartChain x = Machines.machine(0, 0);
        for (int stage : new int[] {MIN, -1, 2, STAGES, MAX}) {
            check.raises("install at stage " + stage, INDEX, () -> x.install(stage, 1, 1, 0));
            check.raises("install of key 0 at stage " + stage, INDEX, () -> x.install(stage, 0, 1, 0));
            check.raises("install of version 100 at stage " + stage, INDEX, () -> x.install(stage, 1, 100, 0));
            check.raises("install of measure 1000 at stage " + stage, INDEX, () -> x.install(stage, 1, 1, 1000));
        }
        check.same("install at the last stage", 1, x.install(1, 1, 1, 0));
        check.same("install at the first stage", 1, x.install(0, 1, 1, 0));
    }

    // "Installs an image, whether the machine runs or not."
    private void installInEachState() {
        StartChain x = Machines.machine(0);
        check.same("install when off", 1, x.install(0, 1, 1, 1));
        x.start();
        check.same("install when it runs, from 1", 0, x.install(0, 1, 1, 2));
        check.same("install when it runs, over what runs", 1, x.install(0, 1, 1, 3));
        x.setTrusted(1, false);
        x.stop();
        x.start();
        check.same("install when halted", 0, x.install(0, 2, 1, 4));
        check.same("halted still", 'h', x.state());
        x.setTrusted(2, true);
        x.stop();
        check.same("the next start takes it", true, x.start());
        check.same("its measure", 5, x.register(0));
    }

    // ---- promises 5, 6 and 8

    // "Returns whether it was before."
    private void badBefore() {
        StartChain x = Machines.machine(0);
        x.install(0, 1, 1, 1);
        for (int slot = 0; slot < 2; slot++) {
            boolean before = false;
            for (boolean next : new boolean[] {false, true, true, false, false, true}) {
                check.same("bad before, slot " + slot, before, x.setBad(0, slot, next));
                check.same("reason then", next ? 'b' : '-', x.reason(0, slot));
                before = next;
            }
        }
    }

    // "IndexOutOfBoundsException if there is no such stage or no such slot", ahead of NoSuchElementException
    private void noSuchStageOrSlot() {
        StartChain x = new StartChain();
        for (int stages = 0; stages <= STAGES; stages++) {
            for (int stage : new int[] {MIN, -1, stages, STAGES, MAX}) {
                for (int slot : new int[] {MIN, -1, 0, 1, 2, MAX}) {
                    checkNoSlot(x, stage, slot);
                }
            }
            for (int slot : new int[] {MIN, -2, -1, 2, 3, MAX}) {
                for (int stage = 0; stage < stages; stage++) {
                    checkNoSlot(x, stage, slot);
                }
            }
            if (stages < STAGES) {
                x.addStage(0);
            }
        }
        StartChain y = Machines.machine(0);
        y.install(0, 1, 1, 1);
        for (int slot : new int[] {MIN, -1, 2, MAX}) {
            checkNoSlot(y, 0, slot);
        }
    }

    private void checkNoSlot(StartChain x, int stage, int slot) {
        String where = " of stage " + stage + ", slot " + slot;
        for (boolean isBad : BOTH) {
            check.raises("setBad" + where, INDEX, () -> x.setBad(stage, slot, isBad));
        }
        check.raises("version" + where, INDEX, () -> x.version(stage, slot));
        check.raises("reason" + where, INDEX, () -> x.reason(stage, slot));
    }

    // "NoSuchElementException if the slot is empty"
    private void slotIsEmpty() {
        StartChain x = new StartChain();
        for (int i = 0; i < STAGES; i++) {
            x.addStage(0);
            checkEmptySlot(x, i, 0);
            checkEmptySlot(x, i, 1);
            x.install(i, 1, 7 + i, 1);
            check.same("version of slot 0", 7 + i, x.version(i, 0));
            checkEmptySlot(x, i, 1);
            x.install(i, 1, 17 + i, 1);
            check.same("version of slot 1", 17 + i, x.version(i, 1));
            check.same("version of slot 0 stays", 7 + i, x.version(i, 0));
        }
    }

    private void checkEmptySlot(StartChain x, int stage, int slot) {
        String where = " of stage " + stage + ", empty slot " + slot;
        for (boolean isBad : BOTH) {
            check.raises("setBad" + where, NO_ELEMENT, () -> x.setBad(stage, slot, isBad));
        }
        check.raises("version" + where, NO_ELEMENT, () -> x.version(stage, slot));
        check.same("reason" + where, 'e', x.reason(stage, slot));
    }

    // ---- promise 7

    // "IndexOutOfBoundsException if there is no such stage"
    private void activeOfNoStage() {
        StartChain x = new StartChain();
        for (int stages = 0; stages <= STAGES; stages++) {
            for (int stage : new int[] {MIN, -1, stages, STAGES, MAX}) {
                check.raises("active of stage " + stage, INDEX, () -> x.active(stage));
            }
            if (stages < STAGES) {
                x.addStage(0);
                check.same("active of the last stage", 0, x.active(stages));
            }
        }
    }

    // ---- promise 8

    // "Returns the first one of 'e' empty, 'k' its key is not trusted, 'v' its version is less than the counter; 'b' if
    // it would be measured, but is bad; or '-'"
    private void reasonIsTheFirst() {
        for (boolean isTrusted : BOTH) {
            for (boolean isLess : BOTH) {
                for (boolean isBad : BOTH) {
                    StartChain x = Machines.machine(0);
                    x.install(0, 1, 50, 1);
                    x.start();
                    x.commit();
                    x.install(0, 2, isLess ? 49 : 50, 2);
                    x.setTrusted(2, isTrusted);
                    x.setBad(0, 0, isBad);
                    char due = !isTrusted ? 'k' : isLess ? 'v' : isBad ? 'b' : '-';
                    check.same("reason " + isTrusted + isLess + isBad, due, x.reason(0, 0));
                    check.same("reason of the other slot", '-', x.reason(0, 1));
                    x.stop();
                    check.same("reason when off", due, x.reason(0, 0));
                    x.start();
                    check.same("it runs from", due == '-' ? 0 : 1, x.runsFrom(0));
                    check.same("it is measured", due == 'b' ? 2 : 1, x.entries());
                }
            }
        }
    }

    private void reasonByTheCounter() {
        StartChain x = Machines.machine(0, 0);
        x.install(0, 1, 40, 1);
        x.start();
        check.same("version 1, counter 0", '-', x.reason(0, 0));
        x.commit();
        check.same("version 1, counter 40", 'v', x.reason(0, 0));
        check.same("version 40, counter 40", '-', x.reason(0, 1));
        check.same("version 1, counter 1 of another stage", '-', x.reason(1, 0));
        x.install(0, 1, 39, 1);
        check.same("version 39, counter 40", 'v', x.reason(0, 0));
        x.install(0, 1, 39, 1);
        x.install(0, 1, 41, 1);
        check.same("version 41, counter 40", '-', x.reason(0, 0));
    }

    // ---- promise 9

    // "IndexOutOfBoundsException if there is no such stage"
    private void counterOfNoStage() {
        StartChain x = new StartChain();
        for (int stages = 0; stages <= STAGES; stages++) {
            for (int stage : new int[] {MIN, -1, stages, STAGES, MAX}) {
                check.raises("counter of stage " + stage, INDEX, () -> x.counter(stage));
            }
            if (stages < STAGES) {
                x.addStage(0);
                check.same("counter of the last stage", 0, x.counter(stages));
            }
        }
    }

    // ---- promise 10

    // "IllegalStateException if it is not off, or there are no stages"
    private void startWhenNotOff() {
        StartChain none = new StartChain();
        check.raises("start without stages", STATE, () -> none.start());
        StartChain x = Machines.running(0);
        check.raises("start when it runs", STATE, () -> x.start());
        check.same("it runs", 'r', x.state());
        StartChain y = Machines.halted(0);
        y.setBad(0, 0, false);
        check.raises("start when it is halted", STATE, () -> y.start());
        check.same("it is halted", 'h', y.state());
        y.stop();
        check.same("start when it is stopped", true, y.start());
    }

    // "Returns whether it runs."
    private void startReturns() {
        for (int stages = 1; stages <= STAGES; stages++) {
            StartChain x = Machines.machine(new int[stages]);
            x.setBad(stages - 1, 0, true);
            check.same("start when the last stage does not run", false, x.start());
            x.setBad(stages - 1, 0, false);
            x.stop();
            check.same("start when all run", true, x.start());
        }
    }

    // ---- promise 11

    // "Stops the machine, whether it runs or has halted. Returns the number of stages that ran."
    private void stopReturns() {
        StartChain x = Machines.machine(0, 0, 0, 0, 0, 0);
        for (int where = 0; where < STAGES; where++) {
            x.setBad(where, 0, true);
            x.start();
            check.same("stop when halted at " + where, where, x.stop());
            check.same("state when stopped", 'o', x.state());
            x.setBad(where, 0, false);
        }
        x.start();
        x.setTrusted(1, false);
        check.same("stop when all ran", STAGES, x.stop());
        check.same("state when stopped", 'o', x.state());
    }

    // "IllegalStateException if it is off"
    private void stopWhenOff() {
        StartChain none = new StartChain();
        check.raises("stop of a new one", STATE, () -> none.stop());
        StartChain x = Machines.machine(0);
        check.raises("stop before a start", STATE, () -> x.stop());
        x.start();
        x.stop();
        check.raises("stop when stopped", STATE, () -> x.stop());
        StartChain y = Machines.halted(0);
        y.stop();
        check.raises("stop when stopped after a halt", STATE, () -> y.stop());
    }

    // ---- promise 12

    // "Raises the counter of each stage to the version from which it runs, if that is greater."
    private void commitIfGreater() {
        for (int greater = 0; greater <= STAGES; greater++) {
            StartChain x = Machines.running(0, 0, 0, 0, 0, 0);
            check.same("commit from 0 to 1", STAGES, x.commit());
            check.same("commit to the same", 0, x.commit());
            for (int i = 0; i < greater; i++) {
                x.install(i, 1, i == 0 ? 2 : 99, 1);
            }
            check.same("commit of what is installed, but does not run", 0, x.commit());
            Machines.restart(x);
            check.same("commit of those that are greater", greater, x.commit());
            for (int i = 0; i < STAGES; i++) {
                check.same("counter of stage " + i, i >= greater ? 1 : i == 0 ? 2 : 99, x.counter(i));
            }
        }
    }

    private void commitAfterFallback() {
        StartChain x = Machines.machine(0);
        x.install(0, 1, 99, 1);
        x.setBad(0, 1, true);
        x.start();
        check.same("commit after a fallback", 1, x.commit());
        check.same("counter of the version that runs", 1, x.counter(0));
        check.same("the greater one is not passed over", 'b', x.reason(0, 1));
    }

    // "IllegalStateException if the machine does not run"
    private void commitWhenItDoesNotRun() {
        StartChain none = new StartChain();
        check.raises("commit of a new one", STATE, () -> none.commit());
        StartChain x = Machines.machine(0);
        check.raises("commit before a start", STATE, () -> x.commit());
        x.start();
        x.stop();
        check.raises("commit when stopped", STATE, () -> x.commit());
        StartChain y = Machines.halted(0, 0);
        check.raises("commit when halted", STATE, () -> y.commit());
        check.same("counter of a stage ahead of the halt", 0, y.counter(0));
    }

    // ---- promise 13

    // "Returns 'o' off, 'r' it runs, 'h' it has halted."
    private void stateSigns() {
        check.same("state of a new one", 'o', new StartChain().state());
        check.same("state with stages", 'o', Machines.machine(0).state());
        check.same("state when it runs", 'r', Machines.running(0).state());
        check.same("state when it is halted", 'h', Machines.halted(0).state());
        check.same("state when halted behind others", 'h', Machines.halted(0, 1, 2, 0, 1, 2).state());
    }

    // ---- promise 14

    // "Returns the slot from which a stage runs."
    private void runsFromEachSlot() {
        StartChain x = Machines.machine(0, 0, 0, 0);
        x.install(1, 1, 1, 1);
        x.install(2, 1, 1, 1);
        x.setBad(2, 1, true);
        x.install(3, 1, 1, 1);
        x.install(3, 1, 1, 1);
        x.setBad(3, 0, true);
        x.start();
        int[] due = {0, 1, 0, 1};
        for (int i = 0; i < due.length; i++) {
            check.same("runsFrom of stage " + i, due[i], x.runsFrom(i));
        }
        x.install(0, 1, 1, 1);
        check.same("runsFrom when another is installed", 0, x.runsFrom(0));
    }

    // "IndexOutOfBoundsException if there is no such stage", then "NoSuchElementException if the machine is off, or the
    // stage does not run"
    private void runsFromOfNone() {
        StartChain none = new StartChain();
        check.raises("runsFrom without stages", INDEX, () -> none.runsFrom(0));
        StartChain x = Machines.machine(0, 0, 0);
        checkNoRuns(x, "before a start", 0);
        x.setBad(1, 0, true);
        x.start();
        check.same("runsFrom ahead of the halt", 0, x.runsFrom(0));
        checkNoRuns(x, "when halted", 1);
        x.setBad(1, 0, false);
        checkNoRuns(x, "when halted, though it would run now", 1);
        x.stop();
        checkNoRuns(x, "when stopped after a halt", 0);
        x.start();
        checkNoRuns(x, "when it runs", 3);
        x.stop();
        checkNoRuns(x, "when stopped", 0);
    }

    /** Of three stages, those from this one on do not run. */
    private void checkNoRuns(StartChain x, String when, int from) {
        for (int stage : new int[] {MIN, -1, 3, STAGES, MAX}) {
            check.raises("runsFrom of stage " + stage + " " + when, INDEX, () -> x.runsFrom(stage));
        }
        for (int i = from; i < 3; i++) {
            int stage = i;
            check.raises("runsFrom of stage " + stage + " " + when, NO_ELEMENT, () -> x.runsFrom(stage));
        }
    }

    // ---- promise 15

    // "how often a stage ran from the slot that was not active when it was started [..] over all starts"
    private void fallbacksOverAllStarts() {
        StartChain x = Machines.machine(0, 0, 0, 0, 0, 0);
        int due = 0;
        for (int bad = 0; bad < STAGES; bad++) {
            x.install(bad, 1, 1, 1);
            x.setBad(bad, 1, true);
            for (int times = 0; times < 2; times++) {
                x.start();
                due += bad + 1;
                check.same("fallbacks of " + (bad + 1) + " stages", due, x.fallbacks());
                x.stop();
                check.same("fallbacks when stopped", due, x.fallbacks());
            }
        }
        x.setBad(3, 0, true);
        x.start();
        check.same("fallbacks ahead of a halt", due + 3, x.fallbacks());
    }

    private void fallbacksThatAreNone() {
        check.same("fallbacks of a new one", 0, new StartChain().fallbacks());
        StartChain x = Machines.machine(0);
        x.install(0, 1, 1, 1);
        x.start();
        check.same("fallbacks when slot 1 is active", 0, x.fallbacks());
        x.install(0, 1, 1, 1);
        check.same("fallbacks when another slot is active later", 0, x.fallbacks());
        x.setBad(0, 0, true);
        x.setBad(0, 1, true);
        Machines.restart(x);
        check.same("fallbacks when both are bad", 0, x.fallbacks());
        check.same("that machine is halted", 'h', x.state());
    }

    // ---- promises 16, 17 and 18

    // "IndexOutOfBoundsException if there is no such register"
    private void noSuchRegister() {
        for (StartChain x : new StartChain[] {new StartChain(), Machines.machine(0), Machines.running(0),
            Machines.halted(0)}) {
            for (int register : new int[] {MIN, -1, 3, 4, 7, MAX}) {
                check.raises("register " + register, INDEX, () -> x.register(register));
                check.raises("registerByLog " + register, INDEX, () -> x.registerByLog(register));
                check.raises("forecast " + register, INDEX, () -> x.forecast(register));
            }
        }
        StartChain x = Machines.running(0, 1, 2);
        for (int register = 0; register < REGISTERS; register++) {
            check.same("register " + register, 11, x.register(register));
            check.same("registerByLog " + register, 11, x.registerByLog(register));
            check.same("forecast " + register, 11, x.forecast(register));
        }
    }

    // "Returns the same value, found from the log."
    private void sameByTheLog() {
        StartChain x = Machines.machine(2, 0, 2, 1, 2, 0);
        for (int i = 0; i < STAGES; i++) {
            x.install(i, 1, 1, 999 - 100 * i);
            x.setBad(i, 1, true);
        }
        x.start();
        for (int register = 0; register < REGISTERS; register++) {
            int value = 0;
            for (int i = 0; i < x.entries(); i++) {
                if (x.entry(i) / 1000 == register) {
                    value = (31 * value + x.entry(i) % 1000 + 1) % 9973;
                }
            }
            check.same("register by hand", value, x.register(register));
            check.same("registerByLog by hand", value, x.registerByLog(register));
        }
    }

    // ---- promise 18

    // "Returns the value, also if the machine would halt."
    private void forecastIfItWouldHalt() {
        for (int where = 0; where < STAGES; where++) {
            StartChain x = Machines.machine(0, 1, 2, 0, 1, 2);
            x.setBad(where, 0, true);
            int[] due = new int[REGISTERS];
            for (int i = 0; i <= where; i++) {
                due[i % REGISTERS] = 31 * due[i % REGISTERS] + 11;
            }
            for (int register = 0; register < REGISTERS; register++) {
                check.same("forecast if it would halt at " + where, due[register], x.forecast(register));
            }
            check.same("it is not started by that", 'o', x.state());
            check.same("its log stays", 0, x.entries());
            x.start();
            for (int register = 0; register < REGISTERS; register++) {
                check.same("the forecast comes true", due[register], x.register(register));
            }
        }
    }

    // "IllegalStateException if there are no stages"
    private void forecastWithoutStages() {
        StartChain x = new StartChain();
        for (int register = 0; register < REGISTERS; register++) {
            int wanted = register;
            check.raises("forecast without stages", STATE, () -> x.forecast(wanted));
        }
        check.raises("forecast without stages, no such register", INDEX, () -> x.forecast(3));
        check.raises("forecast without stages, no such register", INDEX, () -> x.forecast(-1));
        x.addStage(0);
        check.same("forecast of an empty stage", 0, x.forecast(0));
    }

    // ---- promises 19 and 20

    // "Returns the number of entries of the log."
    private void entriesFewestAndMost() {
        check.same("entries of a new one", 0, new StartChain().entries());
        for (int bad = 0; bad <= STAGES; bad++) {
            StartChain x = fallingBack(bad);
            x.start();
            check.same("entries when " + bad + " fall back", STAGES + bad, x.entries());
            x.stop();
            x.start();
            check.same("entries of the next start", STAGES + bad, x.entries());
        }
    }

    /** Six stages, the first ones of which run from slot 0, as slot 1 is active, but bad. */
    private static StartChain fallingBack(int many) {
        StartChain x = Machines.machine(0, 1, 2, 0, 1, 2);
        for (int i = 0; i < many; i++) {
            x.install(i, 1, 1, 20);
            x.setBad(i, 1, true);
        }
        return x;
    }

    // "IndexOutOfBoundsException if there is no such entry"
    private void noSuchEntry() {
        StartChain none = new StartChain();
        for (int index : new int[] {MIN, -1, 0, 1, MAX}) {
            check.raises("entry of a new one " + index, INDEX, () -> none.entry(index));
        }
        for (int bad = 0; bad <= STAGES; bad++) {
            StartChain x = fallingBack(bad);
            int size = STAGES + bad;
            check.raises("entry before a start", INDEX, () -> x.entry(0));
            x.start();
            for (int index : new int[] {MIN, -1, size, size + 1, MAX}) {
                check.raises("entry " + index + " of " + size, INDEX, () -> x.entry(index));
            }
            check.same("the first entry", bad > 0 ? 20 : 10, x.entry(0));
            check.same("the last entry", 2010, x.entry(size - 1));
        }
    }

    // "Returns 1000 times its register, plus its measure."
    private void entryOfEachRegister() {
        StartChain x = Machines.machine(0, 0, 1, 1, 2, 2);
        int[] due = {0, 999, 1000, 1999, 2000, 2999};
        for (int i = 0; i < STAGES; i++) {
            x.install(i, 1, 1, due[i] % 1000);
        }
        x.start();
        for (int i = 0; i < STAGES; i++) {
            check.same("entry " + i, due[i], x.entry(i));
        }
    }

    // ---- promise 21

    // "IllegalArgumentException if a number is out of range"
    private void sealRanges() {
        StartChain x = Machines.running(0);
        for (int registers : new int[] {MIN, -1, 0, 8, 9, MAX}) {
            check.raises("seal of registers " + registers, ARGUMENT, () -> x.seal(registers, 1));
        }
        for (int people : new int[] {MIN, -1, 0, 6, 7, MAX}) {
            check.raises("seal for people " + people, ARGUMENT, () -> x.seal(1, people));
        }
        check.raises("seal of both out of range", ARGUMENT, () -> x.seal(0, 0));
        check.same("seal of the fewest", 0, x.seal(1, 1));
        check.same("seal of the most", 1, x.seal(7, 5));
    }

    // "IllegalStateException if the machine does not run"
    private void sealWhenItDoesNotRun() {
        StartChain stopped = Machines.running(0);
        stopped.stop();
        for (StartChain x : new StartChain[] {new StartChain(), Machines.machine(0), stopped, Machines.halted(0)}) {
            check.raises("seal when it does not run", STATE, () -> x.seal(1, 1));
            check.raises("seal when it does not run, no registers", ARGUMENT, () -> x.seal(0, 1));
            check.raises("seal when it does not run, no people", ARGUMENT, () -> x.seal(1, 0));
        }
    }

    // "or there are 8 secrets"
    private void sealWhenFull() {
        StartChain x = Machines.running(0);
        for (int i = 0; i < SECRETS; i++) {
            check.same("number of the secret", i, x.seal(1 + i % 7, 1 + i % PEOPLE));
        }
        check.raises("seal when there are 8", STATE, () -> x.seal(1, 1));
        check.raises("seal when there are 8, registers 8", ARGUMENT, () -> x.seal(8, 1));
        check.raises("seal when there are 8, people 6", ARGUMENT, () -> x.seal(1, 6));
        check.raises("secret 8", INDEX, () -> x.opens(SECRETS));
    }

    // ---- promise 22

    // "Returns the number of its registers whose forecasts differ from the values before."
    private void sealAheadCounts() {
        for (int changed = 0; changed <= 7; changed++) {
            StartChain x = Machines.running(0, 1, 2);
            for (int registers = 1; registers <= 7; registers++) {
                x.seal(registers, 1);
            }
            for (int stage = 0; stage < REGISTERS; stage++) {
                if ((changed >> stage & 1) == 1) {
                    x.install(stage, 1, 1, 11);
                }
            }
            for (int registers = 1; registers <= 7; registers++) {
                int differ = Integer.bitCount(registers & changed);
                check.same("sealAhead of " + registers + " when " + changed + " differ", differ,
                        x.sealAhead(registers - 1));
                check.same("it opens now", differ == 0, x.opens(registers - 1));
                check.same("it is not lost", false, x.isLost(registers - 1));
            }
            Machines.restart(x);
            check.same("all open after the next start", 1.0f, x.openShare());
        }
    }

    private void sealAheadIfItWouldHalt() {
        StartChain x = Machines.running(0, 1);
        x.seal(3, 1);
        x.setBad(0, 0, true);
        check.same("sealAhead to the forecasts of a halt", 1, x.sealAhead(0));
        check.same("it opens no more", false, x.opens(0));
        check.same("it is lost, as the machine would halt", true, x.isLost(0));
    }

    // "IndexOutOfBoundsException if there is no such secret", then "IllegalStateException if it does not open"
    private void sealAheadWhenItDoesNotOpen() {
        StartChain x = Machines.withClosedSecret(1);
        check.raises("sealAhead when it runs with another value", STATE, () -> x.sealAhead(0));
        check.raises("sealAhead of no such secret", INDEX, () -> x.sealAhead(1));
        x.install(0, 1, 1, 10);
        check.raises("sealAhead when it would open then", STATE, () -> x.sealAhead(0));
        x.stop();
        check.raises("sealAhead when off", STATE, () -> x.sealAhead(0));
        check.raises("sealAhead when off, of no such secret", INDEX, () -> x.sealAhead(1));
        x.setTrusted(1, false);
        x.start();
        check.raises("sealAhead when halted", STATE, () -> x.sealAhead(0));
        x.setTrusted(1, true);
        Machines.restart(x);
        check.same("sealAhead when it opens", 0, x.sealAhead(0));
    }

    // ---- promises 22, 23, 24 and 27

    // "IndexOutOfBoundsException if there is no such secret"
    private void noSuchSecret() {
        checkNoSecrets(new StartChain(), 0);
        checkNoSecrets(Machines.machine(0), 0);
        checkNoSecrets(Machines.halted(0), 0);
        StartChain x = Machines.running(0);
        for (int secrets = 0; secrets < SECRETS; secrets++) {
            checkNoSecrets(x, secrets);
            x.seal(1, 1);
        }
        checkNoSecrets(x, SECRETS);
        x.stop();
        checkNoSecrets(x, SECRETS);
    }

    private void checkNoSecrets(StartChain x, int secrets) {
        for (int secret : new int[] {MIN, -1, secrets, secrets + 1, SECRETS, MAX}) {
            check.raises("sealAhead of secret " + secret, INDEX, () -> x.sealAhead(secret));
            check.raises("opens of secret " + secret, INDEX, () -> x.opens(secret));
            check.raises("isLost of secret " + secret, INDEX, () -> x.isLost(secret));
            check.raises("recover of secret " + secret, INDEX, () -> x.recover(secret));
        }
        for (int secret = 0; secret < secrets; secret++) {
            check.same("isLost of secret " + secret, false, x.isLost(secret));
        }
    }

    // ---- promise 25

    // "the number of a secret, which need not be there"; "the first secret that opens, from this number on"
    private void nextOpenFromAnyNumber() {
        for (int open = 0; open < SECRETS; open++) {
            StartChain x = withOneOpen(open);
            for (int from : new int[] {MIN, MIN + 1, -8, -1, 0, open - 1, open}) {
                check.same("nextOpen from " + from, open, x.nextOpen(from));
            }
            for (int from : new int[] {open + 1, SECRETS - 1, SECRETS, SECRETS + 1, MAX - 1, MAX}) {
                if (from > open) {
                    check.raises("nextOpen from " + from, NO_ELEMENT, () -> x.nextOpen(from));
                }
            }
        }
        StartChain all = Machines.running(0);
        for (int i = 0; i < SECRETS; i++) {
            all.seal(1, 1);
        }
        for (int i = 0; i < SECRETS; i++) {
            check.same("nextOpen when all open", i, all.nextOpen(i));
        }
    }

    /** Eight secrets, of which this one alone opens. */
    private static StartChain withOneOpen(int open) {
        StartChain x = Machines.running(0, 1);
        for (int i = 0; i < SECRETS; i++) {
            x.seal(i == open ? 1 : 2, 1);
        }
        x.install(1, 1, 1, 11);
        Machines.restart(x);
        return x;
    }

    // "NoSuchElementException if there is none"
    private void nextOpenOfNone() {
        StartChain stopped = Machines.running(0);
        stopped.seal(1, 1);
        stopped.stop();
        StartChain halted = Machines.running(0);
        halted.seal(2, 1);
        halted.setBad(0, 0, true);
        Machines.restart(halted);
        for (StartChain x : new StartChain[] {new StartChain(), Machines.running(0), stopped, halted,
            Machines.withClosedSecret(1)}) {
            for (int from : new int[] {MIN, -1, 0, 1, SECRETS, MAX}) {
                check.raises("nextOpen of none from " + from, NO_ELEMENT, () -> x.nextOpen(from));
            }
        }
    }

    // ---- promise 26

    // "IndexOutOfBoundsException if there is no such person"
    private void noSuchPerson() {
        StartChain x = new StartChain();
        for (boolean agrees : BOTH) {
            for (int person : new int[] {MIN, -1, PEOPLE, PEOPLE + 1, MAX}) {
                check.raises("setAgreed of person " + person, INDEX, () -> x.setAgreed(person, agrees));
            }
        }
        check.same("setAgreed of the first", 1, x.setAgreed(0, true));
        check.same("setAgreed of the last", 2, x.setAgreed(4, true));
    }

    // "Returns the number of people who agree."
    private void agreedFewestAndMost() {
        for (int mask = 0; mask < 1 << PEOPLE; mask++) {
            StartChain x = new StartChain();
            int due = 0;
            for (int person = 0; person < PEOPLE; person++) {
                boolean agrees = (mask >> person & 1) == 1;
                due += agrees ? 1 : 0;
                check.same("setAgreed " + mask, due, x.setAgreed(person, agrees));
                check.same("setAgreed once more " + mask, due, x.setAgreed(person, agrees));
            }
            for (int person = 0; person < PEOPLE; person++) {
                due -= mask >> person & 1;
                check.same("setAgreed no more " + mask, due, x.setAgreed(person, false));
            }
        }
    }

    // ---- promise 27

    // "UnsupportedOperationException if fewer people agree than have to"; "Returns the number of people who agreed."
    private void recoverNeedsEnough() {
        for (int need = 1; need <= PEOPLE; need++) {
            for (int agree = 0; agree <= PEOPLE; agree++) {
                StartChain x = Machines.withClosedSecret(need);
                for (int person = 0; person < agree; person++) {
                    x.setAgreed(PEOPLE - 1 - person, true);
                }
                if (agree < need) {
                    check.raises("recover by " + agree + " of " + need, UNSUPPORTED, () -> x.recover(0));
                } else {
                    check.same("recover by " + agree + " of " + need, agree, x.recover(0));
                }
                check.same("opens by " + agree + " of " + need, agree >= need, x.opens(0));
                check.same("who agrees then", agree < need ? agree : 0, x.setAgreed(0, false));
            }
        }
    }

    // "it is sealed to the present values of its registers"
    private void recoverSealsToPresentValues() {
        StartChain x = Machines.running(0, 1, 2);
        x.seal(5, 1);
        x.install(0, 1, 1, 11);
        Machines.restart(x);
        x.install(2, 1, 1, 12);
        x.setAgreed(3, true);
        check.same("recover when it would differ again", 1, x.recover(0));
        check.same("opens by the present values", true, x.opens(0));
        check.same("lost by the forecasts", true, x.isLost(0));
        x.install(2, 1, 1, 10);
        x.install(1, 1, 1, 13);
        Machines.restart(x);
        check.same("opens when another register differs", true, x.opens(0));
        x.install(0, 1, 1, 10);
        Machines.restart(x);
        check.same("opens by the values before", false, x.opens(0));
    }

    // "and nobody agrees any more"
    private void nobodyAgreesAnyMore() {
        StartChain x = Machines.running(0);
        x.seal(1, 2);
        x.seal(1, 1);
        x.install(0, 1, 1, 11);
        Machines.restart(x);
        for (int person = 0; person < PEOPLE; person++) {
            x.setAgreed(person, true);
        }
        check.same("recover by all", PEOPLE, x.recover(0));
        check.raises("recover the next one by none", UNSUPPORTED, () -> x.recover(1));
        for (int person = 0; person < PEOPLE; person++) {
            check.same("nobody agrees", 0, x.setAgreed(person, false));
        }
        x.setAgreed(2, true);
        check.same("recover the next one by one", 1, x.recover(1));
    }

    // "IllegalStateException if the machine does not run, or the secret opens", ahead of UnsupportedOperationException
    private void recoverWhenItDoesNotRunOrOpens() {
        for (boolean agrees : BOTH) {
            StartChain x = Machines.running(0);
            x.seal(1, 1);
            x.setAgreed(0, agrees);
            check.raises("recover when it opens", STATE, () -> x.recover(0));
            x.stop();
            check.raises("recover when off", STATE, () -> x.recover(0));
            x.setBad(0, 0, true);
            x.start();
            check.raises("recover when halted", STATE, () -> x.recover(0));
            check.raises("recover when halted, no such secret", INDEX, () -> x.recover(1));
            check.same("who agrees is kept", agrees ? 2 : 1, x.setAgreed(1, true));
        }
    }

    // ---- promise 28

    // "Returns their number divided by that of all secrets, both converted to float."
    private void shareOfEachNumber() {
        for (int all = 1; all <= SECRETS; all++) {
            for (int open = 0; open <= all; open++) {
                StartChain x = Machines.running(0, 1);
                for (int i = 0; i < all; i++) {
                    x.seal(i < open ? 1 : 2, 1);
                }
                check.same("openShare of all", 1.0f, x.openShare());
                x.install(1, 1, 1, 11);
                Machines.restart(x);
                check.same("openShare " + open + " of " + all, (float) open / (float) all, x.openShare());
                x.stop();
                check.same("openShare when off", 0.0f, x.openShare());
                x.setTrusted(1, false);
                x.start();
                check.same("openShare when halted", 0.0f, x.openShare());
            }
        }
    }

    // "ArithmeticException if there are no secrets"
    private void shareOfNoSecrets() {
        for (StartChain x : new StartChain[] {new StartChain(), Machines.machine(0), Machines.running(0),
            Machines.halted(0)}) {
            check.raises("openShare without secrets", ARITHMETIC, () -> x.openShare());
        }
    }

    // ---- promise 29

    // "the sum of the versions divided by the number of stages that run, both converted to double"
    private void meanFewestAndMost() {
        for (int stages = 1; stages <= STAGES; stages++) {
            StartChain x = Machines.running(new int[stages]);
            check.same("meanVersion of the least", 1.0, x.meanVersion());
            for (int i = 0; i < stages; i++) {
                x.install(i, 1, 99, 1);
            }
            Machines.restart(x);
            check.same("meanVersion of the greatest", 99.0, x.meanVersion());
            x.install(0, 1, 98, 1);
            Machines.restart(x);
            check.same("meanVersion of one that is less", (99.0 * stages - 1.0) / stages, x.meanVersion());
        }
        for (int where = 1; where < STAGES; where++) {
            StartChain x = Machines.machine(new int[STAGES]);
            x.install(0, 1, 99, 1);
            x.setBad(where, 0, true);
            x.start();
            check.same("meanVersion when halted at " + where, (98.0 + where) / where, x.meanVersion());
        }
    }

    // "ArithmeticException if none runs"
    private void meanIfNoneRuns() {
        StartChain stopped = Machines.running(0);
        stopped.stop();
        StartChain stoppedLater = Machines.halted(0, 0);
        stoppedLater.stop();
        for (StartChain x : new StartChain[] {new StartChain(), Machines.machine(0), stopped, stoppedLater,
            Machines.halted(0)}) {
            check.raises("meanVersion of none", ARITHMETIC, () -> x.meanVersion());
        }
    }
}
