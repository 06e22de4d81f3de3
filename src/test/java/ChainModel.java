import java.util.ArrayList;
import java.util.HashSet;
import java.util.List;
import java.util.Map;
import java.util.NoSuchElementException;
import java.util.Set;
import java.util.TreeMap;

/**
 * The document read a second time, by other means: a start answers a new value, registers are always found from its
 * log, and an image is never changed. RunsTest holds the program against it.
 */
public final class ChainModel {
    private record Image(int key, int version, int measure, boolean bad) { }

    private record Entry(int register, int measure) { }

    private record Run(int slot, int version) { }

    /** A start: what was measured, which stages run, how many fell back, and whether all run. */
    private record Started(List<Entry> log, List<Run> runs, int fallbacks, boolean all) {
        int register(int register) {
            int value = 0;
            for (Entry entry : log) {
                if (entry.register() == register) {
                    value = (value * 31 + entry.measure() + 1) % 9973;
                }
            }
            return value;
        }
    }

    private static final class Stage {
        int register;
        Image[] slots = new Image[2];
        int active = 0;
        int counter = 0;
    }

    private static final class Secret {
        int people;
        Map<Integer, Integer> values = new TreeMap<>();
    }

    private final Set<Integer> trusted = new HashSet<>();
    private final Set<Integer> agreed = new HashSet<>();
    private final List<Stage> stages = new ArrayList<>();
    private final List<Secret> secrets = new ArrayList<>();
    private Started last = new Started(List.of(), List.of(), 0, false);
    private boolean on = false;
    private int fallbacks = 0;

    private static void need(boolean holds, RuntimeException otherwise) {
        if (!holds) {
            throw otherwise;
        }
    }

    private static void needIndex(int index, int size) {
        need(index >= 0 && index < size, new IndexOutOfBoundsException());
    }

    private static boolean in(int number, int least, int most) {
        return least <= number && number <= most;
    }

    private boolean runs() {
        return on && last.all();
    }

    private List<Run> runningStages() {
        return on ? last.runs() : List.of();
    }

    private Started imagine() {
        List<Entry> log = new ArrayList<>();
        List<Run> runs = new ArrayList<>();
        int fell = 0;
        for (Stage stage : stages) {
            Run run = null;
            for (int slot : new int[] {stage.active, 1 - stage.active}) {
                Image image = stage.slots[slot];
                boolean tried = image != null && trusted.contains(image.key()) && image.version() >= stage.counter;
                if (run == null && tried) {
                    log.add(new Entry(stage.register, image.measure()));
                    run = image.bad() ? null : new Run(slot, image.version());
                }
            }
            if (run == null) {
                return new Started(log, runs, fell, false);
            }
            runs.add(run);
            fell += run.slot() == stage.active ? 0 : 1;
        }
        return new Started(log, runs, fell, true);
    }

    private static boolean holds(Secret secret, Started started) {
        return secret.values.entrySet().stream().allMatch(e -> started.register(e.getKey()) == e.getValue());
    }

    private boolean isOpen(Secret secret) {
        return runs() && holds(secret, last);
    }

    private Image image(int stage, int slot) {
        needIndex(stage, stages.size());
        needIndex(slot, 2);
        Image image = stages.get(stage).slots[slot];
        need(image != null, new NoSuchElementException());
        return image;
    }

    public boolean setTrusted(int key, boolean isTrusted) {
        need(in(key, 1, 9), new IllegalArgumentException());
        return isTrusted ? !trusted.add(key) : trusted.remove(key);
    }

    public int addStage(int register) {
        need(in(register, 0, 2), new IllegalArgumentException());
        need(stages.size() < 6 && !on, new IllegalStateException());
        Stage stage = new Stage();
        stage.register = register;
        stages.add(stage);
        return stages.indexOf(stage);
    }

    public int install(int stage, int key, int version, int measure) {
        needIndex(stage, stages.size());
        need(in(key, 1, 9) && in(version, 1, 99) && in(measure, 0, 999), new IllegalArgumentException());
        Stage target = stages.get(stage);
        int slot = target.slots[target.active] == null ? target.active : 1 - target.active;
        target.slots[slot] = new Image(key, version, measure, false);
        target.active = slot;
        return slot;
    }

    public boolean setBad(int stage, int slot, boolean isBad) {
        Image image = image(stage, slot);
        stages.get(stage).slots[slot] = new Image(image.key(), image.version(), image.measure(), isBad);
        return image.bad();
    }

    public int version(int stage, int slot) {
        return image(stage, slot).version();
    }

    public int active(int stage) {
        needIndex(stage, stages.size());
        return stages.get(stage).active;
    }

    public char reason(int stage, int slot) {
        needIndex(stage, stages.size());
        needIndex(slot, 2);
        Image image = stages.get(stage).slots[slot];
        return image == null ? 'e' : !trusted.contains(image.key()) ? 'k'
                : image.version() < stages.get(stage).counter ? 'v' : image.bad() ? 'b' : '-';
    }

    public int counter(int stage) {
        needIndex(stage, stages.size());
        return stages.get(stage).counter;
    }

    public boolean start() {
        need(!on && !stages.isEmpty(), new IllegalStateException());
        last = imagine();
        on = true;
        fallbacks += last.fallbacks();
        return last.all();
    }

    public int stop() {
        need(on, new IllegalStateException());
        on = false;
        return last.runs().size();
    }

    public int commit() {
        need(runs(), new IllegalStateException());
        int raised = 0;
        for (Stage stage : stages) {
            int before = stage.counter;
            stage.counter = Math.max(before, last.runs().get(stages.indexOf(stage)).version());
            raised += stage.counter > before ? 1 : 0;
        }
        return raised;
    }

    public char state() {
        return !on ? 'o' : last.all() ? 'r' : 'h';
    }

    public int runsFrom(int stage) {
        needIndex(stage, stages.size());
        need(stage < runningStages().size(), new NoSuchElementException());
        return last.runs().get(stage).slot();
    }

    public int fallbacks() {
        return fallbacks;
    }

    public int register(int register) {
        needIndex(register, 3);
        return last.register(register);
    }

    public int registerByLog(int register) {
        return register(register);
    }

    public int forecast(int register) {
        needIndex(register, 3);
        need(!stages.isEmpty(), new IllegalStateException());
        return imagine().register(register);
    }

    public int entries() {
        return last.log().size();
    }

    public int entry(int index) {
        needIndex(index, last.log().size());
        return 1000 * last.log().get(index).register() + last.log().get(index).measure();
    }

    public int seal(int registers, int people) {
        need(in(registers, 1, 7) && in(people, 1, 5), new IllegalArgumentException());
        need(runs() && secrets.size() < 8, new IllegalStateException());
        Secret secret = new Secret();
        secret.people = people;
        for (int register = 0; register < 3; register++) {
            if ((registers & (1 << register)) != 0) {
                secret.values.put(register, last.register(register));
            }
        }
        secrets.add(secret);
        return secrets.indexOf(secret);
    }

    public int sealAhead(int secret) {
        needIndex(secret, secrets.size());
        need(isOpen(secrets.get(secret)), new IllegalStateException());
        Started ahead = imagine();
        Map<Integer, Integer> values = secrets.get(secret).values;
        int differ = (int) values.keySet().stream().filter(r -> ahead.register(r) != last.register(r)).count();
        values.replaceAll((register, value) -> ahead.register(register));
        return differ;
    }

    public boolean opens(int secret) {
        needIndex(secret, secrets.size());
        return isOpen(secrets.get(secret));
    }

    public boolean isLost(int secret) {
        needIndex(secret, secrets.size());
        Started ahead = imagine();
        return !(ahead.all() && holds(secrets.get(secret), ahead));
    }

    public int nextOpen(int from) {
        for (int i = 0; i < secrets.size(); i++) {
            if (i >= from && isOpen(secrets.get(i))) {
                return i;
            }
        }
        throw new NoSuchElementException();
    }

    public int setAgreed(int person, boolean agrees) {
        needIndex(person, 5);
        if (agrees) {
            agreed.add(person);
        } else {
            agreed.remove(person);
        }
        return agreed.size();
    }

    public int recover(int secret) {
        needIndex(secret, secrets.size());
        Secret lost = secrets.get(secret);
        need(runs() && !isOpen(lost), new IllegalStateException());
        need(agreed.size() >= lost.people, new UnsupportedOperationException());
        lost.values.replaceAll((register, value) -> last.register(register));
        int agreeing = agreed.size();
        agreed.clear();
        return agreeing;
    }

    public float openShare() {
        need(!secrets.isEmpty(), new ArithmeticException());
        return (float) secrets.stream().filter(this::isOpen).count() / (float) secrets.size();
    }

    public double meanVersion() {
        need(!runningStages().isEmpty(), new ArithmeticException());
        double sum = runningStages().stream().mapToInt(Run::version).sum();
        return sum / runningStages().size();
    }
}
