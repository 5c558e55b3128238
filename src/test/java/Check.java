/** Counts the project's tests and says which went wrong. */
final class Check {
    private static int passed = 0;
    private static int failed = 0;
    private static int wrong = 0;
    private static String present = "";

    private Check() {
    }

    /** Runs one test; it fails if one of its checks does, or if it throws. */
    static void test(String name, Runnable body) {
        present = name;
        wrong = 0;
        try {
            body.run();
        } catch (RuntimeException | Error e) {
            say("threw " + e);
        }
        if (wrong == 0) {
            passed++;
        } else {
            failed++;
        }
    }

    static void same(String call, Object got, Object due) {
        if (!due.equals(got)) {
            say(call + " answered " + got + ", due is " + due);
        }
    }

    /** The class has to be the very one that the document names, not one below it. */
    static void fails(String call, Class<? extends RuntimeException> due, Runnable body) {
        try {
            body.run();
        } catch (RuntimeException e) {
            if (e.getClass() != due) {
                say(call + " threw " + e.getClass().getName() + ", due is " + due.getName());
            }
            return;
        }
        say(call + " threw nothing, due is " + due.getName());
    }

    private static void say(String what) {
        wrong++;
        if (wrong <= 5) {
            System.out.println(present + ": " + what);
        }
    }

    /** Prints the counts and answers whether all tests passed. */
    static boolean close() {
        System.out.println("project: " + passed + " passed, " + failed + " failed");
        return failed == 0 && passed > 0;
    }
}
