/** Compares answers with those that are due, and counts the checks by promise. */
final class Checks {
    private final String name;
    private int passed;
    private int failed;
    private String part = "";

    Checks(String name) {
        this.name = name;
    }

    void begin(String partName) {
        part = partName;
    }

    void due(String call, long got, long want) {
        tell(got == want, call + " answered " + got + ", due is " + want);
    }

    void due(String call, double got, double want) {
        tell(got == want, call + " answered " + got + ", due is " + want);
    }

    void tell(boolean holds, String fault) {
        if (holds) {
            passed++;
        } else {
            failed++;
            System.out.println(name + ", " + part + ": " + fault);
        }
    }

    boolean anyFailed() {
        return failed > 0;
    }

    void end() {
        System.out.println(name + ": " + passed + " passed, " + failed + " failed");
        if (failed > 0) {
            System.exit(1);
        }
    }
}
