import java.util.Random;

/** Long runs of calls drawn by fixed seeds, each answer compared with the plain model's. */
public final class ModelTest {
    private static final int RUNS = 1500;
    private static final int CALLS = 512;
    private static final int KINDS_OF_CALL = 35;

    private final Random random;
    private final OverTheShoulder x = new OverTheShoulder();
    private final PlainModel model = new PlainModel();
    private final int[] answered;
    private String told = "";

    private ModelTest(int seed, int[] answered) {
        random = new Random(seed);
        this.answered = answered;
    }

    public static void main(String[] args) {
        int[] answered = new int[KINDS_OF_CALL];
        for (int seed = 0; seed < RUNS; seed++) {
            new ModelTest(seed, answered).run(seed);
        }
        for (int call = 0; call < KINDS_OF_CALL; call++) {
            Checks.holds("call " + call + " is drawn often", answered[call] > 1000 || call < 2);
        }
        Checks.end("ModelTest");
    }

    private void run(int seed) {
        int wait = random.nextInt(30);
        for (int n = 0; n < CALLS; n++) {
            if (told.isEmpty() && wait-- <= 0) {
                told = anyTrain();
                wait = 10 + random.nextInt(120);
            }
            if (!told.isEmpty() && random.nextInt(40) > 0) {
                feedOne(seed);
            } else {
                other(seed);
            }
        }
    }

    private void feedOne(int seed) {
        char letter = told.charAt(0);
        told = told.substring(1);
        if (letter == '!') {
            same(seed, 1, "train()", x.train(), model.train());
        } else {
            same(seed, 0, "feed(" + (int) letter + ")", x.feed(letter), model.feed(letter));
        }
    }

    private void other(int seed) {
        int call = 2 + random.nextInt(KINDS_OF_CALL - 2);
        int a = small();
        int b = small();
        int c = random.nextInt();
        int d = random.nextInt(3) - random.nextInt(2);
        String text = " of " + a + ", " + b + ", " + c + ", " + d;
        long got = asked(call, a, b, c, d);
        long due = due(call, a, b, c, d);
        same(seed, call, "call " + call + text, got, due);
        boolean same = true;
        for (int what = 0; what < 10; what++) {
            same &= x.looker(what % 4, what) == model.looker(what % 4, what);
        }
        for (int what = -1; what < 18; what++) {
            same &= x.count(what) == model.count(what);
        }
        Checks.holds("run " + seed + ": state behind call " + call + text, same);
    }

    private long asked(int call, int a, int b, int c, int d) {
        return switch (call) {
            case 2 -> x.line(a, b);
            case 3 -> x.holder(a);
            case 4 -> x.looker(a, b);
            case 5 -> x.takes(a, b);
            case 6 -> x.shows(a);
            case 7 -> x.tilt(d);
            case 8 -> x.base(10 * a + b);
            case 9 -> x.sit(a, b);
            case 10 -> x.read(a, b);
            case 11 -> x.away(a, b);
            case 12 -> b < 4 ? x.page() : x.read(a % 4, b % 4);
            case 13 -> x.most(a);
            case 14 -> x.plan(a, b);
            case 15 -> x.by(a, 4 * b);
            case 16 -> x.rest(a, d);
            case 17 -> x.first(a);
            case 18 -> x.hold();
            case 19 -> x.bend();
            case 20 -> x.early(b * 3);
            case 21 -> x.seat(a);
            case 22 -> x.more(a, b);
            case 23 -> x.both(a, b);
            case 24 -> x.chance(a, 2 * b + (c & 1), d);
            case 25 -> x.missed(a);
            case 26 -> x.left(a);
            case 27 -> x.kinds(a, b * 2 + d);
            case 28 -> x.row(b > 4 ? b % 4 : b);
            case 29 -> x.judge(a);
            case 30 -> x.seeds(a, 2 * b, c, d);
            case 31 -> x.image();
            case 32 -> b < 3 ? x.restore() : x.row(a);
            case 33 -> x.count(a + b);
            default -> x.away(a % 4, 1);
        };
    }

    private long due(int call, int a, int b, int c, int d) {
        return switch (call) {
            case 2 -> model.line(a, b);
            case 3 -> model.holder(a);
            case 4 -> model.looker(a, b);
            case 5 -> model.takes(a, b);
            case 6 -> model.shows(a);
            case 7 -> model.tilt(d);
            case 8 -> model.base(10 * a + b);
            case 9 -> model.sit(a, b);
            case 10 -> model.read(a, b);
            case 11 -> model.away(a, b);
            case 12 -> b < 4 ? model.page() : model.read(a % 4, b % 4);
            case 13 -> model.most(a);
            case 14 -> model.plan(a, b);
            case 15 -> model.by(a, 4 * b);
            case 16 -> model.rest(a, d);
            case 17 -> model.first(a);
            case 18 -> model.hold();
            case 19 -> model.bend();
            case 20 -> model.early(b * 3);
            case 21 -> model.seat(a);
            case 22 -> model.more(a, b);
            case 23 -> model.both(a, b);
            case 24 -> model.chance(a, 2 * b + (c & 1), d);
            case 25 -> model.missed(a);
            case 26 -> model.left(a);
            case 27 -> model.kinds(a, b * 2 + d);
            case 28 -> model.row(b > 4 ? b % 4 : b);
            case 29 -> model.judge(a);
            case 30 -> model.seeds(a, 2 * b, c, d);
            case 31 -> model.image();
            case 32 -> b < 3 ? model.restore() : model.row(a);
            case 33 -> model.count(a + b);
            default -> model.away(a % 4, 1);
        };
    }

    private void same(int seed, int call, String what, long got, long due) {
        answered[call]++;
        Checks.equal("run " + seed + ": " + what, got, due);
    }

    /** Mostly what can be meant, now and then far outside. */
    private int small() {
        int kind = random.nextInt(12);
        if (kind == 0) {
            return random.nextInt(40) - 20;
        }
        return kind < 8 ? random.nextInt(4) : random.nextInt(11);
    }

    /** A train of some statements, "!" behind it; now and then one that is out of range or broken. */
    private String anyTrain() {
        StringBuilder train = new StringBuilder();
        int statements = 1 + random.nextInt(9);
        for (int i = 0; i < statements; i++) {
            train.append(anyStatement());
        }
        if (random.nextInt(8) == 0) {
            train.setCharAt(random.nextInt(train.length()), "lhtk;0123456789+-x".charAt(random.nextInt(18)));
        }
        if (random.nextInt(12) == 0) {
            train.setLength(random.nextInt(train.length()));
        }
        return train.append('!').toString();
    }

    private String anyStatement() {
        boolean wild = random.nextInt(25) == 0;
        int kind = random.nextInt(10);
        if (kind < 5) {
            return "l" + random.nextInt(wild ? 10 : 4) + random.nextInt(wild ? 10 : 6) + random.nextInt(10)
                    + (wild ? random.nextInt(10) : 1 + random.nextInt(1 + random.nextInt(9))) + ";";
        }
        if (kind < 7) {
            return "k" + random.nextInt(wild ? 10 : 3) + (wild ? random.nextInt(10) : 1 + random.nextInt(4))
                    + (wild ? random.nextInt(100) : 1 + random.nextInt(30)) + ";";
        }
        if (kind < 9) {
            return "h" + random.nextInt(wild ? 10 : 6) + random.nextInt(10)
                    + (wild ? "0" + random.nextInt(10) : 10 + random.nextInt(1 + random.nextInt(90))) + ";";
        }
        return "t" + "+-0".charAt(random.nextInt(3)) + ";";
    }
}
