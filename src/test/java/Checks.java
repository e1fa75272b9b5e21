/** Counts what passed and failed, and tells what failed. */
final class Checks {
    private static int passed = 0;
    private static int failed = 0;

    private Checks() {
    }

    static void equal(String what, long got, long due) {
        if (got == due) {
            passed++;
        } else {
            failed++;
            System.out.println("FAILED " + what + ": answered " + got + ", due is " + due);
        }
    }

    static void holds(String what, boolean isSo) {
        equal(what, isSo ? 1 : 0, 1);
    }

    static void text(String what, String got, String due) {
        boolean isSo = got.equals(due);
        holds(what, isSo);
        if (!isSo) {
            System.out.println("  it is  " + got);
            System.out.println("  due is " + due);
        }
    }

    /** Tells the sum, and ends the program with exit code 1 if something failed. */
    static void end(String name) {
        System.out.println(name + ": " + passed + " passed, " + failed + " failed");
        if (failed > 0 || passed == 0) {
            System.exit(1);
        }
    }

    /** Feeds a text letter by letter and has it taken as a train. */
    static int tell(OverTheShoulder x, String train) {
        for (int i = 0; i < train.length(); i++) {
            x.feed(train.charAt(i));
        }
        return x.train();
    }

    /** A new object to which a train was told. */
    static OverTheShoulder told(String train) {
        OverTheShoulder x = new OverTheShoulder();
        int statements = (int) train.chars().filter(letter -> letter == ';').count();
        equal("train " + train, tell(x, train), statements);
        return x;
    }
}
