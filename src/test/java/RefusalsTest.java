import java.util.Arrays;
import java.util.List;

/**
 * Every way in which a call is refused: with which number, which one of two that fit, and that nothing changes but how
 * many there were.
 */
public final class RefusalsTest {
    private static final int LEAST = Integer.MIN_VALUE;
    private static final int GREATEST = Integer.MAX_VALUE;
    private static final long OF_MORE = 1000000000L;
    private static final long OF_LONGS = 4000000000000000000L;

    private RefusalsTest() {
    }

    public static void main(String[] args) {
        nobodyLooksAtFirst();
        nothingIsThereAtFirst();
        nobody();
        other();
        state();
        below();
        above();
        noRoom();
        twoReasons();
        noRefusals();
        Checks.end("RefusalsTest");
    }

    /** A call answers a refusal, counts it once, and leaves all else as it was. */
    private static void refused(List<String> in, int due, String call) {
        OverTheShoulder x = States.made(in);
        OverTheShoulder twin = States.made(in);
        long offset = call.startsWith("more") ? OF_MORE : call.startsWith("chance") ? OF_LONGS : 0;
        long dueAnswer = offset == 0 ? due : offset - due;
        Checks.equal("'" + call + "' is refused", Calls.ask(x, call), dueAnswer);
        long[] counted = States.refusals(twin);
        counted[-due - 1]++;
        Checks.holds("'" + call + "' counts " + due + " once, and nothing else",
                Arrays.equals(States.refusals(x), counted));
        Checks.text("'" + call + "' changes nothing", States.whole(x), States.whole(twin));
    }

    private static void refusedEach(List<String> in, int due, String... calls) {
        for (String call : calls) {
            refused(in, due, call);
        }
    }

    private static void nobodyLooksAtFirst() {
        refusedEach(States.NOTHING, -1, "looker 0 0", "takes 0 0", "sit 0 0", "read 0 0", "away 0 1", "most 0",
                "plan 0 0", "by 0 0", "rest 0 0", "first 0", "seat 0", "more 0 1", "both 0 1", "chance 0 0 0",
                "missed 0", "left 0", "judge 0", "seeds 0 1 0 0");
    }

    private static void nothingIsThereAtFirst() {
        refusedEach(States.NOTHING, -1, "line 0 0", "kinds 0 0");
        refused(States.NOTHING, -3, "restore");
    }

    private static void nobody() {
        for (int none : new int[] {4, 5, -1, LEAST, GREATEST}) {
            refusedEach(States.CROWDED, -1, "looker " + none + " 0", "takes 0 " + none, "sit " + none + " 0",
                    "read " + none + " 0", "away " + none + " 1", "most " + none, "plan " + none + " 0",
                    "by " + none + " 0", "rest " + none + " 0", "first " + none, "seat " + none, "more 0 " + none,
                    "more " + none + " 0", "both 0 " + none, "both " + none + " 0", "chance " + none + " 0 0",
                    "missed " + none, "left " + none, "judge " + none, "seeds " + none + " 1 0 0",
                    "read 0 " + none);
        }
        for (int none : new int[] {8, 9, -1, LEAST, GREATEST}) {
            refusedEach(States.CROWDED, -1, "line " + none + " 0", "takes " + none + " 0", "kinds " + none + " 0");
        }
        for (int one = 0; one < 4; one++) {
            refusedEach(States.CROWDED, -1, "more " + one + " " + one, "both " + one + " " + one);
        }
        List<String> two = List.of("tell k111;k111;l0011;");
        refusedEach(two, -1, "looker 2 0", "most 2", "more 1 2", "both 2 1", "line 1 0", "takes 1 0", "takes 0 2",
                "kinds 1 0");
    }

    private static void other() {
        for (int what : new int[] {-1, LEAST, GREATEST}) {
            refusedEach(States.CROWDED, -2, "line 0 " + what, "holder " + what, "looker 0 " + what, "rest 0 " + what,
                    "seeds 0 1 0 " + what, "chance 0 0 " + what);
        }
        refusedEach(States.CROWDED, -2, "line 7 6", "holder 4", "looker 3 10", "rest 3 2", "seeds 3 1 0 2",
                "chance 3 0 2");
    }

    private static void state() {
        refused(States.CROWDED, -3, "read 0 3");
        refused(States.CROWDED, -3, "read 1 0");
        refused(States.CROWDED, -3, "away 1 1");
        refused(States.FULL, -3, "restore");
        refused(List.of("tell l0011;k1130;", "read 0 0"), -3, "read 0 0");
        refused(List.of("tell l0011;k1130;"), -3, "read 0 1");
        for (int above = 4; above <= 9; above++) {
            refused(List.of("tell k1130;", "row 3", "row " + above, "row 0"), -3, "chance 0 0 0");
        }
    }

    private static void below() {
        for (int below : new int[] {-1, LEAST}) {
            refusedEach(States.CROWDED, -4, "feed " + below, "shows " + below, "sit 0 " + below, "away 0 " + below,
                    "plan 0 " + below, "by 0 " + below, "early " + below, "chance 0 " + below + " 0",
                    "kinds 0 " + below, "row " + below, "seeds 0 " + below + " 0 0", "base " + below);
        }
        refusedEach(States.CROWDED, -4, "tilt -2", "tilt " + LEAST, "base 9", "base 0", "away 0 0", "seeds 0 0 0 0");
    }

    private static void above() {
        for (int more : new int[] {0, 1, GREATEST - 1000}) {
            refusedEach(States.CROWDED, -6, "feed " + (256 + more), "shows " + (3 + more), "tilt " + (2 + more),
                    "base " + (100 + more), "sit 0 " + (3 + more), "away 0 " + (61 + more), "by 0 " + (1000 + more),
                    "early " + (1000 + more), "chance 0 " + (21 + more) + " 0", "kinds 0 " + (1000 + more),
                    "row " + (10 + more), "seeds 0 " + (21 + more) + " 0 0");
        }
        refusedEach(States.CROWDED, -6, "feed " + GREATEST, "shows " + GREATEST, "tilt " + GREATEST,
                "base " + GREATEST, "sit 0 " + GREATEST, "away 0 " + GREATEST, "by 0 " + GREATEST,
                "early " + GREATEST, "chance 0 " + GREATEST + " 0", "kinds 0 " + GREATEST, "row " + GREATEST,
                "seeds 0 " + GREATEST + " 0 0");
    }

    private static void noRoom() {
        for (int letter : new int[] {0, 't', 255}) {
            refused(States.FULL, -6, "feed " + letter);
        }
        for (int number : new int[] {0, 3, 9}) {
            refused(States.FULL, -6, "row " + number);
        }
    }

    /** The first that fits in the order in which the promise tells them. */
    private static void twoReasons() {
        refusedEach(States.FULL, -4, "feed -1", "feed " + LEAST, "row -1", "row " + LEAST);
        refusedEach(States.FULL, -6, "feed 256", "row 10");
        refusedEach(States.CROWDED, -1, "line 8 6", "line -1 -1", "looker 4 10", "looker -1 -1", "takes 8 4",
                "takes -1 -1", "sit 4 -1", "sit -1 3", "read 4 4", "read -1 -1", "read 4 3", "read 1 4", "away 4 0",
                "away -1 61", "plan 4 -1", "by 4 -1", "by -1 1000", "rest 4 2", "rest -1 -1", "more 4 4", "more -1 -1",
                "more 4 5", "both 4 4", "both -1 -1", "both 5 4", "kinds 8 -1", "kinds -1 1000", "seeds 4 0 0 2",
                "seeds -1 21 0 2", "seeds 4 0 0 0", "seeds 4 1 0 2", "chance 4 -1 2", "chance -1 21 2",
                "chance 4 0 2", "chance 4 21 0");
        refusedEach(States.CROWDED, -4, "away 1 0", "away 1 -1", "seeds 0 0 0 2", "chance 0 -1 2");
        refusedEach(States.CROWDED, -6, "away 1 61", "seeds 0 21 0 2", "chance 0 21 2");
        List<String> rowAbove = List.of("tell k1130;l1051;", "row 4");
        refused(rowAbove, -1, "chance 1 0 0");
        refused(rowAbove, -4, "chance 0 -1 0");
        refused(rowAbove, -6, "chance 0 21 0");
        refused(rowAbove, -2, "chance 0 0 2");
        refused(rowAbove, -2, "chance 0 20 -1");
        refused(rowAbove, -3, "chance 0 20 1");
    }

    /** What is answered below 0 without a refusal is not counted as one. */
    private static void noRefusals() {
        OverTheShoulder x = States.made(States.CROWDED);
        long[] before = States.refusals(x);
        Checks.equal("35: another what is none", x.count(10), -9);
        Checks.equal("35: the least int is none", x.count(LEAST), -9);
        Checks.equal("35: the greatest int is none", x.count(GREATEST), -9);
        Checks.equal("3: a FAULT is none", x.train(), -1002);
        Checks.equal("3: a FAULT of kind 2 is none", Checks.tell(x, "l0011;"), -2000);
        Checks.equal("16: no such COLUMN is none", x.plan(0, 8), -9);
        Checks.equal("19: no COLUMN is none", x.first(1), -9);
        Checks.equal("22: no BASE is none", x.early(0), -9);
        Checks.equal("31: nothing to tell is none", States.made(States.NOTHING).judge(0), -1);
        Checks.equal("9: TILT -1 is none", x.tilt(-1), 1);
        Checks.equal("24: MORE below 0 is none", x.more(1, 0), -41);
        x.base(10);
        x.away(0, 14);
        Checks.equal("12: to be CUT OFF is none", x.read(0, 2), -9);
        Checks.equal("31: JUDGED is none", x.judge(1), 0);
        Checks.equal("31: JUDGED with no ROW is none", x.judge(1), -9);
        Checks.holds("none of these is counted", Arrays.equals(States.refusals(x), before));
        Checks.equal("35: -5 is never answered", x.count(15), 0);
    }
}
