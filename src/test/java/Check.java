/** Counts what the tests find, and tells it in one line at the end. */
final class Check {
    private static int passed = 0;
    private static int failed = 0;
    private static String about = "";

    private Check() {
    }

    /** What the checks to come are about; it is told ahead of each fault. */
    static void about(String told) {
        about = told;
    }

    static int made() {
        return passed + failed;
    }

    static void due(String call, long got, long want) {
        tell(got == want, call + " answered " + got + ", due is " + want);
    }

    static void dueFloat(String call, float got, float want) {
        tell(got == want, call + " answered " + got + ", due is " + want);
    }

    static void dueText(String call, String got, String want) {
        tell(got.equals(want), call + " answered " + got + ", due is " + want);
    }

    static void dueTrue(String claim, boolean holds) {
        tell(holds, claim + " does not hold");
    }

    static void dueNoClient(String call, Runnable run) {
        dueThrow(call, IllegalArgumentException.class, run);
    }

    static void dueNoPlace(String call, Runnable run) {
        dueThrow(call, IndexOutOfBoundsException.class, run);
    }

    static void dueNoState(String call, Runnable run) {
        dueThrow(call, IllegalStateException.class, run);
    }

    static void dueThrow(String call, Class<?> want, Runnable run) {
        Class<?> got = null;
        try {
            run.run();
        } catch (RuntimeException e) {
            got = e.getClass();
        }
        tell(got == want, call + " threw " + got + ", due is " + want);
    }

    static void close(String test) {
        System.out.println(test + ": " + passed + " passed, " + failed + " failed");
        if (failed > 0 || passed == 0) {
            System.exit(1);
        }
    }

    /** Puts bytes behind a file, one by one. */
    static void write(DeltaNights house, int client, int... bytes) {
        for (int value : bytes) {
            house.put(client, house.length(client), value);
        }
    }

    /** A file and its order, told byte by byte. */
    static void dueFile(String when, DeltaNights house, int client, int... bytes) {
        due(when + ": length(" + client + ")", house.length(client), bytes.length);
        for (int i = 0; i < bytes.length && i < house.length(client); i++) {
            due(when + ": at(" + client + ", " + i + ")", house.at(client, i), bytes[i]);
        }
    }

    private static void tell(boolean holds, String fault) {
        if (holds) {
            passed++;
        } else {
            failed++;
            System.out.println(about + fault);
        }
    }
}
