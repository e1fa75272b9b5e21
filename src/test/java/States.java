import java.util.List;

/** States in which calls are tried, told by the calls that lead to them. */
final class States {
    /** Nothing there. */
    static final List<String> NOTHING = List.of();

    /**
     * Something of all there is, all places of lines and lookers taken: looker 0 has read, looker 1 is cut off, an
     * image is taken of what was then, letters and a row are told, each refusal that there is was answered.
     */
    static final List<String> CROWDED = List.of(
            "tell l0053;l0194;l0352;l1232;l1423;l2561;l2075;l3482;",
            "tell k1116;k029;k2130;k1430;h2440;t-;",
            "image", "read 0 1", "away 1 60", "tilt 0", "base 35", "read 0 0", "sit 3 0",
            "row 1", "row 2", "row 1", "letters t+",
            "line 9 9", "line 9 9", "holder 9", "read 1 0", "base 9", "base 100");

    /** All places of letters and of the row taken, too; no image. */
    static final List<String> FULL = List.of(
            "tell l1051;l1041;l1531;l1321;l1411;l1201;l1191;l1081;",
            "tell k1130;k1115;k228;k011;h3599;",
            "letters t0;t0;t0;t0;t0;t0;t0;t0;t0;t0;t0;t0;t0;t0;t0;t0;t0;t0;t0;t0;t0;t0;t0;t0;t0;t0;t0;t0;t0;t0;t0;t+;",
            "row 1", "row 1", "row 1", "row 0", "row 0", "row 0", "row 0", "row 0", "row 0", "row 0", "row 0", "row 1");

    private States() {
    }

    static OverTheShoulder made(List<String> state) {
        OverTheShoulder made = new OverTheShoulder();
        state.forEach(call -> Calls.ask(made, call));
        return made;
    }

    static PlainModel model(List<String> state) {
        PlainModel made = new PlainModel();
        state.forEach(call -> Calls.ask(made, call));
        return made;
    }

    /** How often each refusal was answered. */
    static long[] refusals(OverTheShoulder x) {
        long[] refusals = new long[6];
        for (int i = 0; i < refusals.length; i++) {
            refusals[i] = x.count(11 + i);
        }
        return refusals;
    }

    /**
     * All else that an object lets see, the row, the letters and the image by using them up. It takes some 220 calls, so
     * that with those that lead to a state an object has answered fewer than 512.
     */
    static String whole(OverTheShoulder x) {
        StringBuilder text = new StringBuilder();
        seen(x, text);
        for (int d = 0; d <= 3; d++) {
            text.append(" chance ").append(x.chance(0, d, 0)).append('/').append(x.chance(0, d, 1));
        }
        text.append(" judge ").append(x.judge(0)).append(" row ").append(x.row(9));
        x.feed(';');
        text.append(" train ").append(x.train());
        holder(x, text);
        text.append(" restore ").append(x.restore());
        seen(x, text);
        return text.toString();
    }

    private static void holder(OverTheShoulder x, StringBuilder text) {
        for (int what = 0; what < 4; what++) {
            text.append(" holder ").append(x.holder(what));
        }
    }

    private static void seen(OverTheShoulder x, StringBuilder text) {
        holder(x, text);
        for (int what = 0; what < 10; what++) {
            text.append(" count ").append(x.count(what));
        }
        for (int line = 0; line < 8; line++) {
            for (int what = 0; what < 6; what++) {
                text.append(" line ").append(x.line(line, what));
            }
        }
        for (int looker = 0; looker < 4; looker++) {
            for (int what = 0; what < 10; what++) {
                text.append(" looker ").append(x.looker(looker, what));
            }
        }
    }
}
