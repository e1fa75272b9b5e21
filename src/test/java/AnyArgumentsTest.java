import java.util.List;

/**
 * No call ever throws or fails to end, for any arguments in any state: each call with the numbers beside every bound
 * and at the ends of int, in several states, compared with the plain model; and calls behind the 512th.
 */
public final class AnyArgumentsTest {
    private static final int[] NUMBERS = {Integer.MIN_VALUE, Integer.MIN_VALUE + 1, -1000000000, -65536, -2001, -1000,
        -10, -9, -2, -1, 0, 1, 2, 3, 4, 5, 6, 7, 8, 9, 10, 11, 12, 13, 19, 20, 21, 29, 30, 31, 32, 33, 59, 60, 61, 95,
        96, 97, 99, 100, 255, 256, 998, 999, 1000, 65536, 1000000000, Integer.MAX_VALUE - 1, Integer.MAX_VALUE};
    private static final int[] FEWER = {Integer.MIN_VALUE, -1, 0, 1, 2, 3, 4, 9, 20, 21, Integer.MAX_VALUE};
    private static final int CALLS = 300;
    private static final long LONGEST_MILLIS = 300000;

    private final List<String> state;
    private OverTheShoulder x;
    private PlainModel model;
    private int calls = CALLS;

    private AnyArgumentsTest(List<String> state) {
        this.state = state;
    }

    public static void main(String[] args) {
        endAtLast();
        for (List<String> state : List.of(States.NOTHING, States.CROWDED, States.FULL)) {
            for (String name : Calls.names()) {
                new AnyArgumentsTest(state).tryAll(name, Calls.numbers(name), name);
            }
        }
        behindTheLastCall();
        Checks.end("AnyArgumentsTest");
    }

    /** If a call fails to end, the test fails. */
    private static void endAtLast() {
        Thread watch = new Thread(() -> {
            try {
                Thread.sleep(LONGEST_MILLIS);
                System.out.println("FAILED: a call does not end");
                Runtime.getRuntime().halt(1);
            } catch (InterruptedException e) {
                Thread.currentThread().interrupt();
            }
        });
        watch.setDaemon(true);
        watch.start();
    }

    private void tryAll(String name, int numbers, String call) {
        if (numbers == 0) {
            ask(call);
            return;
        }
        for (int number : Calls.numbers(name) > 2 ? FEWER : NUMBERS) {
            tryAll(name, numbers - 1, call + " " + number);
        }
    }

    /** An object is used for at most 512 calls, so there is a new one now and then. */
    private void ask(String call) {
        if (calls == CALLS) {
            calls = 0;
            x = States.made(state);
            model = States.model(state);
        }
        calls++;
        Checks.equal(call, Calls.ask(x, call), Calls.ask(model, call));
    }

    /** What these answer is free, but they answer. */
    private static void behindTheLastCall() {
        OverTheShoulder x = States.made(States.FULL);
        int answered = 0;
        for (int i = 0; i < 100000; i++) {
            int z = i * 1103515245 + 12345;
            for (String name : List.of("feed", "train", "read", "most", "judge", "row", "image", "restore", "page")) {
                StringBuilder call = new StringBuilder(name);
                for (int n = Calls.numbers(name); n > 0; n--) {
                    call.append(' ').append(NUMBERS[(z >>> 8 + n) % NUMBERS.length]);
                }
                Calls.ask(x, call.toString());
                answered++;
            }
        }
        Checks.equal("calls behind the 512th are answered", answered, 900000);
    }
}
