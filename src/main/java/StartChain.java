import java.util.ArrayList;
import java.util.Arrays;
import java.util.NoSuchElementException;

/** The starting chain of a machine. The numbered promises that it keeps stand in ../shared/DOC.md. */
public final class StartChain {

    private static final int MOST_STAGES = 6;
    private static final int SLOTS = 2;
    private static final int LAST_KEY = 9;
    private static final int LAST_VERSION = 99;
    private static final int LAST_MEASURE = 999;
    private static final int REGISTERS = 3;
    private static final int ALL_REGISTERS = 7;
    private static final int MOST_SECRETS = 8;
    private static final int PEOPLE = 5;

    private static final int LOG_BASE = 1000;
    private static final int FOLD_FACTOR = 31;
    private static final int FOLD_MODULUS = 9973;

    private static final char OFF = 'o';
    private static final char RUNNING = 'r';
    private static final char HALTED = 'h';

    private static final char EMPTY = 'e';
    private static final char UNTRUSTED = 'k';
    private static final char OUTDATED = 'v';
    private static final char BAD = 'b';
    private static final char GOOD = '-';

    private final boolean[] trusted;
    private final ArrayList<Stage> stages;
    private final ArrayList<Secret> secrets;
    private final boolean[] agreed;
    private final Pass lastStart;
    // Kept apart and used again, so that a look ahead neither touches the last start nor makes objects.
    private final Pass lookAhead;
    private char state;
    private int fallbackCount;

    public StartChain() {
        trusted = new boolean[LAST_KEY + 1];
        stages = new ArrayList<Stage>();
        secrets = new ArrayList<Secret>();
        agreed = new boolean[PEOPLE];
        lastStart = new Pass();
        lookAhead = new Pass();
        state = OFF;
        fallbackCount = 0;
    }

    // ---- keys, stages and images

    public boolean setTrusted(int key, boolean isTrusted) throws IllegalArgumentException {
        if (!isWithin(key, 1, LAST_KEY)) {
            throw new IllegalArgumentException("no such key");
        }
        boolean before = trusted[key];
        trusted[key] = isTrusted;
        return before;
    }

    public int addStage(int register) throws IllegalArgumentException, IllegalStateException {
        if (!isRegister(register)) {
            throw new IllegalArgumentException("no such register");
        }
        if (stages.size() >= MOST_STAGES || state != OFF) {
            throw new IllegalStateException("no room for a stage, or not off");
        }
        stages.add(new Stage(register));
        return stages.size() - 1;
    }

    public int install(int stage, int key, int version, int measure)
            throws IndexOutOfBoundsException, IllegalArgumentException {
        Stage target = stageAt(stage);
        if (!isWithin(key, 1, LAST_KEY) || !isWithin(version, 1, LAST_VERSION)
                || !isWithin(measure, 0, LAST_MEASURE)) {
            throw new IllegalArgumentException("key, version or measure out of range");
        }
        return target.put(new Image(key, version, measure));
    }

    public boolean setBad(int stage, int slot, boolean isBad)
            throws IndexOutOfBoundsException, NoSuchElementException {
        Image image = imageAt(stage, slot);
        boolean before = image.isBad;
        image.isBad = isBad;
        return before;
    }

    public int version(int stage, int slot) throws IndexOutOfBoundsException, NoSuchElementException {
        return imageAt(stage, slot).version;
    }

    public int active(int stage) throws IndexOutOfBoundsException {
        return stageAt(stage).active;
    }

    public char reason(int stage, int slot) throws IndexOutOfBoundsException {
        return judge(stageWithSlot(stage, slot), slot);
    }

    public int counter(int stage) throws IndexOutOfBoundsException {
        return stageAt(stage).counter;
    }

    // ---- starting

    public boolean start() throws IllegalStateException {
        if (state != OFF || stages.isEmpty()) {
            throw new IllegalStateException("not off, or no stages");
        }
        startInto(lastStart);
        fallbackCount += lastStart.fallbackCount;
        state = allRan(lastStart) ? RUNNING : HALTED;
        return state == RUNNING;
    }

    public int stop() throws IllegalStateException {
        if (state == OFF) {
            throw new IllegalStateException("off");
        }
        state = OFF;
        return lastStart.ranCount;
    }

    public int commit() throws IllegalStateException {
        if (state != RUNNING) {
            throw new IllegalStateException("does not run");
        }
        int raised = 0;
        for (int i = 0; i < lastStart.ranCount && i < stages.size(); i++) {
            Stage stage = stages.get(i);
            if (lastStart.versions[i] > stage.counter) {
                stage.counter = lastStart.versions[i];
                raised++;
            }
        }
        return raised;
    }

    public char state() {
        return state;
    }

    public int runsFrom(int stage) throws IndexOutOfBoundsException, NoSuchElementException {
        if (!isStage(stage)) {
            throw new IndexOutOfBoundsException("no such stage");
        }
        if (stage >= countRunning()) {
            throw new NoSuchElementException("the stage does not run");
        }
        return lastStart.slots[stage];
    }

    public int fallbacks() {
        return fallbackCount;
    }

    // ---- registers and the log

    public int register(int register) throws IndexOutOfBoundsException {
        if (!isRegister(register)) {
            throw new IndexOutOfBoundsException("no such register");
        }
        return lastStart.registers[register];
    }

    public int registerByLog(int register) throws IndexOutOfBoundsException {
        if (!isRegister(register)) {
            throw new IndexOutOfBoundsException("no such register");
        }
        int value = 0;
        for (int i = 0; i < lastStart.entryCount; i++) {
            int logged = lastStart.log[i];
            if (logged / LOG_BASE == register) {
                value = fold(value, logged % LOG_BASE);
            }
        }
        return value;
    }

    public int forecast(int register) throws IndexOutOfBoundsException, IllegalStateException {
        if (!isRegister(register)) {
            throw new IndexOutOfBoundsException("no such register");
        }
        if (stages.isEmpty()) {
            throw new IllegalStateException("no stages");
        }
        startInto(lookAhead);
        return lookAhead.registers[register];
    }

    public int entries() {
        return lastStart.entryCount;
    }

    public int entry(int index) throws IndexOutOfBoundsException {
        if (index < 0 || index >= lastStart.entryCount) {
            throw new IndexOutOfBoundsException("no such entry");
        }
        return lastStart.log[index];
    }

    // ---- secrets

    public int seal(int registers, int people) throws IllegalArgumentException, IllegalStateException {
        if (!isWithin(registers, 1, ALL_REGISTERS) || !isWithin(people, 1, PEOPLE)) {
            throw new IllegalArgumentException("registers or people out of range");
        }
        if (state != RUNNING || secrets.size() >= MOST_SECRETS) {
            throw new IllegalStateException("does not run, or no room for a secret");
        }
        Secret sealed = new Secret(registers, people);
        sealed.bindTo(lastStart.registers);
        secrets.add(sealed);
        return secrets.size() - 1;
    }

    public int sealAhead(int secret) throws IndexOutOfBoundsException, IllegalStateException {
        Secret sealed = secretAt(secret);
        if (!isOpen(sealed)) {
            throw new IllegalStateException("the secret does not open");
        }
        startInto(lookAhead);
        return sealed.bindTo(lookAhead.registers);
    }

    public boolean opens(int secret) throws IndexOutOfBoundsException {
        return isOpen(secretAt(secret));
    }

    public boolean isLost(int secret) throws IndexOutOfBoundsException {
        Secret sealed = secretAt(secret);
        startInto(lookAhead);
        return !allRan(lookAhead) || !sealed.fits(lookAhead.registers);
    }

    public int nextOpen(int from) throws NoSuchElementException {
        for (int i = Math.max(from, 0); i < secrets.size(); i++) {
            if (isOpen(secrets.get(i))) {
                return i;
            }
        }
        throw new NoSuchElementException("no secret opens from there on");
    }

    public int setAgreed(int person, boolean agrees) throws IndexOutOfBoundsException {
        if (!isWithin(person, 0, PEOPLE - 1)) {
            throw new IndexOutOfBoundsException("no such person");
        }
        agreed[person] = agrees;
        return countAgreed();
    }

    public int recover(int secret)
            throws IndexOutOfBoundsException, IllegalStateException, UnsupportedOperationException {
        Secret sealed = secretAt(secret);
        if (state != RUNNING || isOpen(sealed)) {
            throw new IllegalStateException("does not run, or the secret opens");
        }
        int agreeing = countAgreed();
        if (agreeing < sealed.people) {
            throw new UnsupportedOperationException("too few people agree");
        }
        sealed.bindTo(lastStart.registers);
        forgetAgreed();
        return agreeing;
    }

    // ---- figures

    public float openShare() throws ArithmeticException {
        if (secrets.isEmpty()) {
            throw new ArithmeticException("no secrets");
        }
        int open = 0;
        for (int i = 0; i < secrets.size(); i++) {
            if (isOpen(secrets.get(i))) {
                open++;
            }
        }
        return (float) open / (float) secrets.size();
    }

    public double meanVersion() throws ArithmeticException {
        int running = countRunning();
        if (running == 0) {
            throw new ArithmeticException("no stage runs");
        }
        int sum = 0;
        for (int i = 0; i < running; i++) {
            sum += lastStart.versions[i];
        }
        return (double) sum / (double) running;
    }

    // ---- what the calls share

    private static boolean isWithin(int number, int least, int most) {
        return number >= least && number <= most;
    }

    private static boolean isRegister(int register) {
        return isWithin(register, 0, REGISTERS - 1);
    }

    private boolean isStage(int stage) {
        return isWithin(stage, 0, stages.size() - 1);
    }

    private Stage stageAt(int stage) {
        if (!isStage(stage)) {
            throw new IndexOutOfBoundsException("no such stage");
        }
        return stages.get(stage);
    }

    private Stage stageWithSlot(int stage, int slot) {
        Stage found = stageAt(stage);
        if (!isWithin(slot, 0, SLOTS - 1)) {
            throw new IndexOutOfBoundsException("no such slot");
        }
        return found;
    }

    private Image imageAt(int stage, int slot) {
        Image image = stageWithSlot(stage, slot).images[slot];
        if (image == null) {
            throw new NoSuchElementException("the slot is empty");
        }
        return image;
    }

    private Secret secretAt(int secret) {
        if (!isWithin(secret, 0, secrets.size() - 1)) {
            throw new IndexOutOfBoundsException("no such secret");
        }
        return secrets.get(secret);
    }

    private boolean isOpen(Secret secret) {
        return state == RUNNING && secret.fits(lastStart.registers);
    }

    /** The stages below this number run: a halt leaves those ahead of it running, a stop none. */
    private int countRunning() {
        return state == OFF ? 0 : lastStart.ranCount;
    }

    private int countAgreed() {
        int count = 0;
        for (int i = 0; i < PEOPLE; i++) {
            if (agreed[i]) {
                count++;
            }
        }
        return count;
    }

    private void forgetAgreed() {
        for (int i = 0; i < PEOPLE; i++) {
            agreed[i] = false;
        }
    }

    private boolean allRan(Pass pass) {
        return pass.ranCount == stages.size();
    }

    private void startInto(Pass pass) {
        pass.clear();
        boolean goesOn = true;
        for (int i = 0; i < stages.size() && goesOn; i++) {
            goesOn = startStage(stages.get(i), pass);
        }
    }

    private boolean startStage(Stage stage, Pass pass) {
        return startSlot(stage, stage.active, pass) || startSlot(stage, stage.spare(), pass);
    }

    private boolean startSlot(Stage stage, int slot, Pass pass) {
        Image image = stage.images[slot];
        char judged = judge(stage, slot);
        if (image == null || (judged != GOOD && judged != BAD)) {
            return false;
        }
        pass.addMeasure(stage.register, image.measure);
        if (judged == BAD) {
            return false;
        }
        pass.addRun(slot, image.version, slot != stage.active);
        return true;
    }

    private char judge(Stage stage, int slot) {
        Image image = stage.images[slot];
        if (image == null) {
            return EMPTY;
        }
        if (!trusted[image.key]) {
            return UNTRUSTED;
        }
        if (image.version < stage.counter) {
            return OUTDATED;
        }
        return image.isBad ? BAD : GOOD;
    }

    private static int fold(int value, int measure) {
        return (FOLD_FACTOR * value + measure + 1) % FOLD_MODULUS;
    }

    private static final class Image {
        final int key;
        final int version;
        final int measure;
        boolean isBad;

        Image(int key, int version, int measure) {
            this.key = key;
            this.version = version;
            this.measure = measure;
            this.isBad = false;
        }
    }

    private static final class Stage {
        final int register;
        final Image[] images;
        int active;
        int counter;

        Stage(int register) {
            this.register = register;
            this.images = new Image[SLOTS];
            this.active = 0;
            this.counter = 0;
        }

        int spare() {
            return active == 0 ? 1 : 0;
        }

        int put(Image image) {
            if (images[active] != null) {
                active = spare();
            }
            images[active] = image;
            return active;
        }
    }

    /** What one start leaves behind. It copies slots and versions, as later installs must not change them. */
    private static final class Pass {
        final int[] registers;
        final int[] log;
        int entryCount;
        // A start halts at the first stage that does not run, so those that run are the first ones.
        final int[] slots;
        final int[] versions;
        int ranCount;
        int fallbackCount;

        Pass() {
            registers = new int[REGISTERS];
            log = new int[MOST_STAGES * SLOTS];
            entryCount = 0;
            slots = new int[MOST_STAGES];
            versions = new int[MOST_STAGES];
            ranCount = 0;
            fallbackCount = 0;
        }

        void clear() {
            Arrays.fill(registers, 0);
            entryCount = 0;
            ranCount = 0;
            fallbackCount = 0;
        }

        void addMeasure(int register, int measure) {
            registers[register] = fold(registers[register], measure);
            if (entryCount < log.length) {
                log[entryCount] = LOG_BASE * register + measure;
                entryCount++;
            }
        }

        void addRun(int slot, int version, boolean isFallback) {
            if (ranCount < slots.length) {
                slots[ranCount] = slot;
                versions[ranCount] = version;
                ranCount++;
            }
            if (isFallback) {
                fallbackCount++;
            }
        }
    }

    private static final class Secret {
        final int registers;
        final int people;
        final int[] values;

        Secret(int registers, int people) {
            this.registers = registers;
            this.people = people;
            this.values = new int[REGISTERS];
        }

        boolean isSealedTo(int register) {
            return (registers >> register & 1) == 1;
        }

        boolean fits(int[] present) {
            return countOther(present) == 0;
        }

        int bindTo(int[] present) {
            int other = countOther(present);
            System.arraycopy(present, 0, values, 0, REGISTERS);
            return other;
        }

        /** Counts its registers whose values differ from these; the others do not matter to it. */
        int countOther(int[] present) {
            int count = 0;
            for (int i = 0; i < REGISTERS; i++) {
                if (isSealedTo(i) && values[i] != present[i]) {
                    count++;
                }
            }
            return count;
        }
    }
}
