/** Small machines for the tests to start from. */
final class Machines {
    private Machines() { }

    /** A stage for each of these registers: its image in slot 0 has key 1, which is trusted, version 1, measure 10. */
    static StartChain machine(int... registers) {
        StartChain x = new StartChain();
        x.setTrusted(1, true);
        for (int i = 0; i < registers.length; i++) {
            x.addStage(registers[i]);
            x.install(i, 1, 1, 10);
        }
        return x;
    }

    static StartChain running(int... registers) {
        StartChain x = machine(registers);
        x.start();
        return x;
    }

    /** As machine, but halted at the last stage, whose only image is bad. */
    static StartChain halted(int... registers) {
        StartChain x = machine(registers);
        x.setBad(registers.length - 1, 0, true);
        x.start();
        return x;
    }

    /** It runs, and its secret 0, of register 0, does not open; so many people have to agree to recover it. */
    static StartChain withClosedSecret(int people) {
        StartChain x = running(0);
        x.seal(1, people);
        x.install(0, 1, 1, 11);
        restart(x);
        return x;
    }

    static void restart(StartChain x) {
        x.stop();
        x.start();
    }
}
