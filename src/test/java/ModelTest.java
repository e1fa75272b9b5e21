import java.util.Random;

/** Long runs of calls drawn by fixed seeds, each answer compared with the plain model's. */
public final class ModelTest {
    private static final int RUNS = 1500;
    private static final int CALLS = 512;
    private static final int KINDS_OF_CALL = 35;

    private final Random random;
    private final OverTheShoulder x = new OverTheShoulder();
    private final PlainModel model = new PlainModel();
    private final int[] answered;
    private String told = "";

    private ModelTest(int seed, int[] answered) {
        random = new Random(seed);
        this.answered = answered;
    }

    public static void main(String[] args) {
        int[] answered = new int[KINDS_OF_CALL];
        for (int seed = 0; seed < RUNS; seed++) {
            new ModelTest(seed, answered).run(seed);
        }
        for (int call = 0; call < KINDS_OF_CALL; call++) {
            Checks.holds("call " + call + " is drawn often", answered[call] > 1000 || call < 2);
        }
        Checks.end("ModelTest");
    }

    private void run(int seed) {
        int wait = random.nextInt(30);
        for (int n = 0; n < CALLS; n++) {
            if (told.isEmpty() && wait-- <= 0) {
                told = anyTrain();
                wait = 10 + random.nextInt(120);
            }
            if (!told.isEmpty() && random.nextInt(40) > 0) {
                feedOne(seed);
            } else {
                other(seed);
            }
        }
    }

    private void feedOne(int seed) {
        char letter = told.charAt(0);
        told = told.substring(1);
        if (letter == '!') {
            same(seed, 1, "train");
        } else {
            same(seed, 0, "feed " + (int) letter);
        }
    }

    private void other(int seed) {
        int call = 2 + random.nextInt(KINDS_OF_CALL - 2);
        int a = small();
        int b = small();
        int c = random.nextInt();
        int d = random.nextInt(3) - random.nextInt(2);
        String text = anyCall(call, a, b, c, d);
        same(seed, call, text);
        boolean same = true;
        for (int what = 0; what < 10; what++) {
            same &= x.looker(what % 4, what) == model.looker(what % 4, what);
        }
        for (int what = -1; what < 18; what++) {
            same &= x.count(what) == model.count(what);
        }
        // With these an object is asked more often than 512 times; the program's don't count how often.
        Checks.holds("run " + seed + ": state behind " + text, same);
    }

    private static String anyCall(int call, int a, int b, int c, int d) {
        return switch (call) {
            case 2 -> "line " + a + " " + b;
            case 3 -> "holder " + a;
            case 4 -> "looker " + a + " " + b;
            case 5 -> "takes " + a + " " + b;
            case 6 -> "shows " + a;
            case 7 -> "tilt " + d;
            case 8 -> "base " + (10 * a + b);
            case 9 -> "sit " + a + " " + b;
            case 10 -> "read " + a + " " + b;
            case 11 -> "away " + a + " " + b;
            case 12 -> b < 4 ? "page" : "read " + a % 4 + " " + b % 4;
            case 13 -> "most " + a;
            case 14 -> "plan " + a + " " + b;
            case 15 -> "by " + a + " " + 4 * b;
            case 16 -> "rest " + a + " " + d;
            case 17 -> "first " + a;
            case 18 -> "hold";
            case 19 -> "bend";
            case 20 -> "early " + b * 3;
            case 21 -> "seat " + a;
            case 22 -> "more " + a + " " + b;
            case 23 -> "both " + a + " " + b;
            case 24 -> "chance " + a + " " + (2 * b + (c & 1)) + " " + d;
            case 25 -> "missed " + a;
            case 26 -> "left " + a;
            case 27 -> "kinds " + a + " " + (b * 2 + d);
            case 28 -> "row " + (b > 4 ? b % 4 : b);
            case 29 -> "judge " + a;
            case 30 -> "seeds " + a + " " + 2 * b + " " + c + " " + d;
            case 31 -> "image";
            case 32 -> b < 3 ? "restore" : "row " + a;
            case 33 -> "count " + (a + b);
            default -> "away " + a % 4 + " 1";
        };
    }

    private void same(int seed, int call, String text) {
        answered[call]++;
        Checks.equal("run " + seed + ": " + text, Calls.ask(x, text), Calls.ask(model, text));
    }

    /** Mostly what can be meant, now and then far outside. */
    private int small() {
        int kind = random.nextInt(12);
        if (kind == 0) {
            return random.nextInt(40) - 20;
        }
        return kind < 8 ? random.nextInt(4) : random.nextInt(11);
    }

    /** A train of some statements, "!" behind it; now and then one that is out of range or broken. */
    private String anyTrain() {
        StringBuilder train = new StringBuilder();
        int statements = 1 + random.nextInt(9);
        for (int i = 0; i < statements; i++) {
            train.append(anyStatement());
        }
        if (random.nextInt(8) == 0) {
            train.setCharAt(random.nextInt(train.length()), "lhtk;0123456789+-x".charAt(random.nextInt(18)));
        }
        if (random.nextInt(12) == 0) {
            train.setLength(random.nextInt(train.length()));
        }
        return train.append('!').toString();
    }

    private String anyStatement() {
        boolean wild = random.nextInt(25) == 0;
        int kind = random.nextInt(10);
        if (kind < 5) {
            return "l" + random.nextInt(wild ? 10 : 4) + random.nextInt(wild ? 10 : 6) + random.nextInt(10)
                    + (wild ? random.nextInt(10) : 1 + random.nextInt(1 + random.nextInt(9))) + ";";
        }
        if (kind < 7) {
            return "k" + random.nextInt(wild ? 10 : 3) + (wild ? random.nextInt(10) : 1 + random.nextInt(4))
                    + (wild ? random.nextInt(100) : 1 + random.nextInt(30)) + ";";
        }
        if (kind < 9) {
            return "h" + random.nextInt(wild ? 10 : 6) + random.nextInt(10)
                    + (wild ? "0" + random.nextInt(10) : 10 + random.nextInt(1 + random.nextInt(90))) + ";";
        }
        return "t" + "+-0".charAt(random.nextInt(3)) + ";";
    }
}
