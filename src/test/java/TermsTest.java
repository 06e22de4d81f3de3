import java.util.NoSuchElementException;

/** The sentences of the document's 'Terms' that name an edge: each has a test of its own, under its words. */
public final class TermsTest {
    private static final Class<IllegalStateException> STATE = IllegalStateException.class;
    private static final Class<IndexOutOfBoundsException> INDEX = IndexOutOfBoundsException.class;
    private static final Class<NoSuchElementException> NO_ELEMENT = NoSuchElementException.class;
    private static final int STAGES = 6;
    private static final int REGISTERS = 3;
    private static final int SECRETS = 8;
    private static final int PEOPLE = 5;
    private static final int LAST_CALL = 512;

    private final Check check = new Check();

    public static void main(String[] args) {
        new TermsTest().run();
    }

    private void run() {
        lastCallAnswers();
        lastCallInstalls();
        stagesAndImages();
        starting();
        registersAndSecrets();
        check.finish();
    }

    private void stagesAndImages() {
        sixStagesInOrder();
        slotsAtFirst();
        rangesOfAnImage();
        goodAtFirst();
        trustedAtFirstNot();
        counterAtFirst();
        installsIntoActiveIfEmpty();
    }

    private void starting() {
        startMakesEmpty();
        activeFirst();
        passedOverIfEmpty();
        passedOverIfNotTrusted();
        passedOverIfLess();
        badIsMeasured();
        runsWhateverIsInstalledLater();
        haltsThere();
        runsIfAllRun();
        noStages();
        staysWhenStoppedOrHalted();
    }

    private void registersAndSecrets() {
        measuresToItsRegister();
        remainder();
        largestFold();
        eightSecrets();
        oneOrMoreRegisters();
        opensIfItRuns();
        emptyRegisterOpens();
        forecastInEachState();
        lostIfItWouldNotOpen();
        lostInEachState();
        peopleAtFirst();
    }

    // "An object is used for at most 512 calls after it has been made"
    private void lastCallAnswers() {
        StartChain x = new StartChain();
        x.setTrusted(1, true);
        int calls = 1;
        for (int i = 0; i < STAGES; i++) {
            x.addStage(0);
            x.install(i, 1, 1, 999);
            x.install(i, 1, 1, 999);
            x.setBad(i, 1, true);
            calls += 4;
        }
        int starts = 0;
        while (calls + 2 < LAST_CALL) {
            check.same("start " + starts, true, x.start());
            starts++;
            check.same("stop " + starts, STAGES, x.stop());
            calls += 2;
        }
        check.same("calls before the last one", LAST_CALL - 1, calls);
        check.same("fallbacks() as the 512th call", starts * STAGES, x.fallbacks());
    }

    private void lastCallInstalls() {
        StartChain x = new StartChain();
        x.addStage(0);
        for (int call = 2; call < LAST_CALL; call++) {
            check.same("install as call " + call, call % 2, x.install(0, 1, call % 99 + 1, call));
        }
        check.same("version as the 512th call", 511 % 99 + 1, x.version(0, 1));
    }

    // "At most 6 stages are numbered from 0 in the order in which they are started."
    private void sixStagesInOrder() {
        StartChain x = new StartChain();
        x.setTrusted(1, true);
        for (int i = 0; i < STAGES; i++) {
            check.same("number of stage " + i, i, x.addStage(2 - i % REGISTERS));
        }
        check.raises("a seventh stage", STATE, () -> x.addStage(0));
        for (int i = STAGES - 1; i >= 0; i--) {
            x.install(i, 1, 1, 100 + i);
        }
        x.start();
        for (int i = 0; i < STAGES; i++) {
            check.same("started as number " + i, 1000 * (2 - i % REGISTERS) + 100 + i, x.entry(i));
        }
    }

    // "the slots 0 and 1, each with an image, or empty, as at first; one of them is active, at first the slot 0"
    private void slotsAtFirst() {
        StartChain x = new StartChain();
        for (int i = 0; i < STAGES; i++) {
            x.addStage(0);
            check.same("active at first", 0, x.active(i));
            check.same("slot 0 at first", 'e', x.reason(i, 0));
            check.same("slot 1 at first", 'e', x.reason(i, 1));
        }
    }

    // "An image has a key from 1 to 9, a version from 1 to 99, and a measure from 0 to 999"
    private void rangesOfAnImage() {
        for (int key = 1; key <= 9; key++) {
            checkImage(key, 50, 500);
        }
        for (int version = 1; version <= 99; version++) {
            checkImage(5, version, 500);
        }
        for (int measure = 0; measure <= 999; measure++) {
            checkImage(5, 50, measure);
        }
    }

    private void checkImage(int key, int version, int measure) {
        StartChain x = new StartChain();
        x.setTrusted(key, true);
        x.addStage(1);
        check.same("slot for measure " + measure, 0, x.install(0, key, version, measure));
        check.same("it runs with key " + key, true, x.start());
        check.same("version " + version, version, x.version(0, 0));
        check.same("mean version " + version, (double) version, x.meanVersion());
        check.same("entry of measure " + measure, 1000 + measure, x.entry(0));
        check.same("register of measure " + measure, measure + 1, x.register(1));
        x.commit();
        check.same("counter of version " + version, version, x.counter(0));
    }

    // "and is good, as at first, or bad"
    private void goodAtFirst() {
        StartChain x = Machines.machine(0);
        check.same("good at first, slot 0", false, x.setBad(0, 0, true));
        x.install(0, 1, 1, 1);
        check.same("good at first, slot 1", false, x.setBad(0, 1, true));
        x.install(0, 1, 1, 1);
        check.same("good at first, where a bad one was", false, x.setBad(0, 0, false));
        check.same("the other one is bad still", true, x.setBad(0, 1, false));
    }

    // "Keys are trusted or not, at first not."
    private void trustedAtFirstNot() {
        for (int key = 1; key <= 9; key++) {
            StartChain x = new StartChain();
            x.addStage(0);
            x.install(0, key, 1, 1);
            check.same("key " + key + " at first", 'k', x.reason(0, 0));
            for (int other = 1; other <= 9; other++) {
                if (other != key) {
                    x.setTrusted(other, true);
                }
            }
            check.same("key " + key + " when all others are trusted", 'k', x.reason(0, 0));
            check.same("key " + key + " before", false, x.setTrusted(key, true));
            check.same("key " + key + " when trusted", '-', x.reason(0, 0));
        }
    }

    // "A stage has a counter, which is 0 at first."
    private void counterAtFirst() {
        StartChain x = Machines.machine(0, 0, 0, 0, 0, 0);
        x.start();
        for (int i = 0; i < STAGES; i++) {
            check.same("counter at first", 0, x.counter(i));
        }
    }

    // "into the slot that is not active, or into the active one if this is empty; [it] is active then"
    private void installsIntoActiveIfEmpty() {
        StartChain x = new StartChain();
        x.addStage(0);
        x.addStage(0);
        int[] due = {0, 1, 0, 1};
        for (int i = 0; i < due.length; i++) {
            check.same("slot of image " + i, due[i], x.install(1, 1, 1, 1));
            check.same("active after image " + i, due[i], x.active(1));
            check.same("active of the other stage", 0, x.active(0));
        }
        check.same("slot of the other stage's first image", 0, x.install(0, 1, 1, 1));
    }

    // "When the machine is started, the log and all registers are made empty, that is, 0"
    private void startMakesEmpty() {
        StartChain x = Machines.running(0, 1, 2);
        x.stop();
        x.setTrusted(1, false);
        check.same("a start that halts at once", false, x.start());
        check.same("entries are made empty", 0, x.entries());
        check.raises("entry(0) of an empty log", INDEX, () -> x.entry(0));
        for (int r = 0; r < REGISTERS; r++) {
            check.same("register is made 0", 0, x.register(r));
            check.same("register by log is made 0", 0, x.registerByLog(r));
        }
        x.setTrusted(1, true);
        for (int i = 0; i < 3; i++) {
            Machines.restart(x);
            check.same("register 2 is not folded on", 11, x.register(2));
            check.same("the log does not grow", 3, x.entries());
        }
    }

    // "At a stage, the active slot is tried first, then the other one."
    private void activeFirst() {
        StartChain x = Machines.machine(0);
        x.install(0, 1, 1, 20);
        x.start();
        check.same("slot 1 is active and tried", 1, x.runsFrom(0));
        check.same("the other one is not measured", 21, x.register(0));
        x.install(0, 1, 1, 30);
        Machines.restart(x);
        check.same("slot 0 is active and tried", 0, x.runsFrom(0));
        x.setBad(0, 0, true);
        Machines.restart(x);
        check.same("slot 1 is the other one", 1, x.runsFrom(0));
        check.same("slot 0 is active still", 0, x.active(0));
        x.setBad(0, 0, false);
        Machines.restart(x);
        check.same("slot 0 is tried first again", 0, x.runsFrom(0));
    }

    // "A slot is passed over if it is empty"
    private void passedOverIfEmpty() {
        StartChain x = new StartChain();
        x.addStage(0);
        check.same("both are empty", false, x.start());
        check.same("empty ones are not measured", 0, x.entries());
        StartChain y = Machines.halted(0);
        check.same("bad, and the other is empty", 'h', y.state());
        check.same("the bad one alone is measured", 1, y.entries());
    }

    // "if the key of its image is not trusted"
    private void passedOverIfNotTrusted() {
        StartChain x = Machines.machine(0);
        x.install(0, 2, 1, 20);
        check.same("the other one runs", true, x.start());
        check.same("it runs from 0", 0, x.runsFrom(0));
        check.same("an untrusted one is not measured", 1, x.entries());
        x.setTrusted(2, true);
        x.setTrusted(1, false);
        Machines.restart(x);
        check.same("it runs from 1", 1, x.runsFrom(0));
        x.setTrusted(2, false);
        x.stop();
        check.same("none is trusted", false, x.start());
        check.same("none is measured", 0, x.entries());
    }

    // "or if its version is less than the counter"
    private void passedOverIfLess() {
        for (int version : new int[] {1, 2, 50, 98, 99}) {
            StartChain x = new StartChain();
            x.setTrusted(1, true);
            x.addStage(0);
            x.install(0, 1, version, 7);
            x.start();
            x.commit();
            x.stop();
            check.same("as great as the counter, " + version, true, x.start());
            if (version > 1) {
                x.install(0, 1, version - 1, 8);
                check.same("one less than the counter, " + version, 'v', x.reason(0, 1));
                Machines.restart(x);
                check.same("it runs from the other one", 0, x.runsFrom(0));
                check.same("an old one is not measured", 1, x.entries());
                x.install(0, 1, version - 1, 8);
                x.stop();
                check.same("both are less", false, x.start());
                check.same("none of them is measured", 0, x.entries());
            }
            if (version < 99) {
                x.install(0, 1, version + 1, 9);
                check.same("one more than the counter, " + version, '-', x.reason(0, x.active(0)));
            }
        }
    }

    // "Otherwise its image is measured; if it is bad, that is all"
    private void badIsMeasured() {
        StartChain x = Machines.machine(0, 1);
        x.install(0, 1, 1, 20);
        x.setBad(0, 1, true);
        check.same("bad, then good", true, x.start());
        check.same("the bad one is measured first", 20, x.entry(0));
        check.same("the good one is measured then", 10, x.entry(1));
        check.same("both go to the register", 31 * 21 + 11, x.register(0));
        x.stop();
        x.setBad(0, 0, true);
        check.same("both bad", false, x.start());
        check.same("both bad: both are measured", 31 * 21 + 11, x.register(0));
        check.same("both bad: nothing else is", 2, x.entries());
        x.stop();
        x.setBad(0, 1, false);
        check.same("good, then bad", true, x.start());
        check.same("the bad one behind is not tried", 21, x.register(0));
    }

    // "the stage runs from this slot, with the version of this image, whatever is installed later"
    private void runsWhateverIsInstalledLater() {
        StartChain x = Machines.running(0);
        x.install(0, 1, 99, 20);
        x.install(0, 1, 98, 30);
        x.setBad(0, 0, true);
        x.setTrusted(1, false);
        check.same("it runs still", 'r', x.state());
        check.same("from the slot", 0, x.runsFrom(0));
        check.same("with the version", 1.0, x.meanVersion());
        check.same("commit raises", 1, x.commit());
        check.same("to the version of that image", 1, x.counter(0));
        check.same("registers stay", 11, x.register(0));
        check.same("the log stays", 10, x.entry(0));
        check.same("one stage ran", 1, x.stop());
    }

    // "If no slot lets the stage run, the machine halts there"
    private void haltsThere() {
        for (int where = 0; where < STAGES; where++) {
            StartChain x = Machines.machine(0, 1, 2, 0, 1, 2);
            x.setBad(where, 0, true);
            check.same("it halts at " + where, false, x.start());
            check.same("halted at " + where, 'h', x.state());
            check.same("those behind are not measured", where + 1, x.entries());
            for (int i = 0; i < STAGES; i++) {
                int stage = i;
                if (i < where) {
                    check.same("ahead of the halt runs " + i, 0, x.runsFrom(i));
                } else {
                    check.raises("does not run " + i, NO_ELEMENT, () -> x.runsFrom(stage));
                }
            }
            check.same("so many ran", where, x.stop());
        }
    }

    // "if all stages run, the machine runs"
    private void runsIfAllRun() {
        for (int stages = 1; stages <= STAGES; stages++) {
            StartChain x = Machines.machine(new int[stages]);
            check.same("all run, " + stages, true, x.start());
            check.same("it runs, " + stages, 'r', x.state());
            check.same("so many ran, " + stages, stages, x.stop());
        }
    }

    // "Without stages, it cannot be started."
    private void noStages() {
        StartChain x = new StartChain();
        check.raises("start without stages", STATE, () -> x.start());
        check.same("it is off", 'o', x.state());
        x.addStage(0);
        check.same("with a stage it is started", false, x.start());
        check.same("and halts", 'h', x.state());
    }

    // "At first, and when it is stopped, it is off; all registers and the log stay as they are when it is stopped or
    // halts."
    private void staysWhenStoppedOrHalted() {
        check.same("off at first", 'o', new StartChain().state());
        StartChain x = Machines.running(0, 1);
        x.stop();
        check.same("off when stopped", 'o', x.state());
        checkKept(x, "stopped");
        StartChain y = Machines.halted(0, 1);
        checkKept(y, "halted");
        y.stop();
        check.same("off when stopped after a halt", 'o', y.state());
        checkKept(y, "halted and stopped");
        y.addStage(2);
        checkKept(y, "with another stage");
    }

    private void checkKept(StartChain x, String when) {
        check.same("entries, " + when, 2, x.entries());
        check.same("entry 0, " + when, 10, x.entry(0));
        check.same("entry 1, " + when, 1010, x.entry(1));
        int[] due = {11, 11, 0};
        for (int r = 0; r < REGISTERS; r++) {
            check.same("register " + r + ", " + when, due[r], x.register(r));
            check.same("register by log " + r + ", " + when, due[r], x.registerByLog(r));
        }
    }

    // "Measuring an image adds the register of its stage and its measure to the log"
    private void measuresToItsRegister() {
        for (int register = 0; register < REGISTERS; register++) {
            for (int measure : new int[] {0, 1, 998, 999}) {
                StartChain x = Machines.machine(register);
                x.install(0, 1, 1, measure);
                x.start();
                check.same("entry of register " + register, 1000 * register + measure, x.entry(0));
                for (int other = 0; other < REGISTERS; other++) {
                    check.same("register " + other, other == register ? measure + 1 : 0, x.register(other));
                    check.same("by log " + other, other == register ? measure + 1 : 0, x.registerByLog(other));
                }
            }
        }
    }

    // "31 times its value, plus the measure, plus 1, and of this the remainder by 9973"
    private void remainder() {
        // 31 * 300 = 9300: these come to 9972, 9973 and 9974.
        int[] measures = {671, 672, 673};
        int[] due = {9972, 0, 1};
        for (int i = 0; i < measures.length; i++) {
            for (int register = 0; register < REGISTERS; register++) {
                StartChain x = Machines.machine(register, register);
                x.install(0, 1, 1, 299);
                x.install(1, 1, 1, measures[i]);
                check.same("forecast at the remainder", due[i], x.forecast(register));
                x.start();
                check.same("register at the remainder", due[i], x.register(register));
                check.same("register by log at the remainder", due[i], x.registerByLog(register));
                check.same("the log keeps the measure", 1000 * register + measures[i], x.entry(1));
            }
        }
    }

    private void largestFold() {
        StartChain x = Machines.machine(1, 1, 1, 0);
        x.install(0, 1, 1, 299);
        x.install(1, 1, 1, 671);
        x.install(2, 1, 1, 999);
        x.start();
        // 31 * 9972 + 999 + 1 = 310132 = 31 * 9973 + 969
        check.same("fold of the largest value and measure", 969, x.register(1));
        check.same("fold of the largest, by log", 969, x.registerByLog(1));
        check.same("fold of the largest, forecast", 969, x.forecast(1));
    }

    // "At most 8 secrets are numbered from 0."
    private void eightSecrets() {
        StartChain x = Machines.running(0);
        for (int i = 0; i < SECRETS; i++) {
            int next = i;
            check.raises("secret " + i + " is not there", INDEX, () -> x.opens(next));
            check.same("number of secret " + i, i, x.seal(1, 1));
            check.same("secret " + i + " opens", true, x.opens(i));
        }
        check.raises("a ninth secret", STATE, () -> x.seal(1, 1));
        check.raises("secret 8 is not there", INDEX, () -> x.opens(8));
        Machines.restart(x);
        check.raises("a ninth secret after a start", STATE, () -> x.seal(1, 1));
    }

    // "A secret is sealed to one or more registers, with a value for each"
    private void oneOrMoreRegisters() {
        for (int changed = 0; changed <= 7; changed++) {
            StartChain x = Machines.running(0, 1, 2);
            for (int registers = 1; registers <= 7; registers++) {
                x.seal(registers, 1);
            }
            for (int stage = 0; stage < REGISTERS; stage++) {
                if ((changed >> stage & 1) == 1) {
                    x.install(stage, 1, 1, 11);
                }
            }
            String what = " when registers of " + changed + " differ, for registers of ";
            for (int registers = 1; registers <= 7; registers++) {
                check.same("lost" + what + registers, (registers & changed) != 0, x.isLost(registers - 1));
            }
            Machines.restart(x);
            for (int registers = 1; registers <= 7; registers++) {
                check.same("opens" + what + registers, (registers & changed) == 0, x.opens(registers - 1));
            }
        }
    }

    // "it opens if the machine runs, and each of these registers has this value"
    private void opensIfItRuns() {
        StartChain x = Machines.running(0, 1);
        x.seal(1, 1);
        check.same("opens when it runs", true, x.opens(0));
        x.stop();
        check.same("opens when it is off, with the value", false, x.opens(0));
        x.setBad(1, 0, true);
        x.start();
        check.same("halted, with the value", 11, x.register(0));
        check.same("opens when it is halted, with the value", false, x.opens(0));
        x.setBad(1, 0, false);
        Machines.restart(x);
        check.same("opens when it runs again", true, x.opens(0));
    }

    private void emptyRegisterOpens() {
        StartChain x = Machines.running(0);
        x.seal(6, 1);
        check.same("sealed to empty registers", true, x.opens(0));
        x.install(0, 1, 1, 500);
        Machines.restart(x);
        check.same("empty registers are as before", true, x.opens(0));
        x.stop();
        x.addStage(2);
        x.install(1, 1, 1, 0);
        x.start();
        check.same("measure 0 fills a register", 1, x.register(2));
        check.same("an empty register is filled", false, x.opens(0));
    }

    // "A forecast of a register is the value that it would have if the machine was started now."
    private void forecastInEachState() {
        StartChain x = Machines.machine(0, 1);
        check.same("forecast before the first start", 11, x.forecast(0));
        x.start();
        check.same("forecast when it runs", 11, x.forecast(0));
        x.install(0, 1, 1, 20);
        check.same("forecast when it runs, of what is installed", 21, x.forecast(0));
        check.same("forecast leaves the register", 11, x.register(0));
        x.setBad(1, 0, true);
        x.stop();
        check.same("forecast when it is off", 21, x.forecast(0));
        x.start();
        x.install(0, 1, 1, 30);
        check.same("forecast when it is halted", 31, x.forecast(0));
        check.same("forecast leaves it halted", 'h', x.state());
    }

    // "A secret is lost if it would not open then."
    private void lostIfItWouldNotOpen() {
        StartChain x = Machines.running(0, 1);
        x.seal(1, 1);
        check.same("lost when nothing is new", false, x.isLost(0));
        x.install(0, 1, 1, 11);
        check.same("lost when its register would differ", true, x.isLost(0));
        check.same("it opens still", true, x.opens(0));
        x.install(0, 1, 1, 10);
        check.same("lost when its register would not differ", false, x.isLost(0));
        x.install(1, 1, 1, 11);
        check.same("lost when another register would differ", false, x.isLost(0));
        x.setBad(1, 1, true);
        check.same("lost when a stage would fall back", false, x.isLost(0));
        x.setBad(1, 0, true);
        check.same("lost when it would halt, with the value", true, x.isLost(0));
    }

    private void lostInEachState() {
        StartChain x = Machines.running(0);
        x.seal(1, 1);
        x.stop();
        check.same("lost when it is off", false, x.isLost(0));
        check.same("it does not open now", false, x.opens(0));
        x.setBad(0, 0, true);
        x.start();
        check.same("lost when it is halted and would halt", true, x.isLost(0));
        x.setBad(0, 0, false);
        check.same("lost when it is halted and would run", false, x.isLost(0));
        check.same("it is halted still", 'h', x.state());
    }

    // "There are the people 0 to 4, who agree or not, at first not."
    private void peopleAtFirst() {
        for (int person = 0; person < PEOPLE; person++) {
            check.same("nobody agrees at first", 0, new StartChain().setAgreed(person, false));
            check.same("one agrees", 1, new StartChain().setAgreed(person, true));
        }
    }
}
