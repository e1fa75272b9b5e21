import java.util.ArrayList;
import java.util.List;
import java.util.regex.Pattern;

/**
 * The document once more, written as literally and as differently from the program as could be: it copies everything
 * and tries every row, shortest rows first, without leaving any out.
 */
final class PlainModel {
    record Line(int column, int kind, int figure, int seconds) {
    }

    record Holder(int kind, int figure, int base, int tilt, int sooner) {
        Holder withKind(int k) {
            return new Holder(k, figure, base, tilt, sooner);
        }

        Holder withBase(int b) {
            return new Holder(kind, figure, b, tilt, sooner);
        }

        Holder withTilt(int t) {
            return new Holder(kind, figure, base, t, sooner);
        }

        Holder withSooner(int s) {
            return new Holder(kind, figure, base, tilt, s);
        }

        int turns(int n) {
            return Math.max(0, turnsAs(kind, n) - sooner);
        }

        private int turnsAs(int as, int n) {
            return switch (as) {
                case 0 -> base;
                case 1 -> turnsAs(0, n) + 3 * figure;
                case 2 -> turnsAs(1, n) + 5 * n;
                case 3 -> turnsAs(0, n) - 4 * n;
                case 4 -> turnsAs(3, n) - figure;
                default -> turnsAs(0, n);
            };
        }

        boolean shows(int seat, int column) {
            int c = column + tilt;
            boolean plainly = seat - 1 <= c && c <= seat + 1;
            if (kind == 4) {
                return c == seat;
            }
            return kind == 5 ? plainly && column >= figure % 4 : plainly;
        }
    }

    record Mind(int seat, int pace, int nerve, int second, int on, int noticed, List<Integer> read, boolean cut) {
    }

    record Row(List<Integer> columns, Mind after) {
    }

    record Image(List<Line> lines, Holder holder, List<Mind> minds) {
    }

    private List<Line> lines = new ArrayList<>();
    private Holder holder = new Holder(0, 0, 30, 0, 0);
    private List<Mind> minds = new ArrayList<>();
    private final StringBuilder letters = new StringBuilder();
    private final List<Integer> told = new ArrayList<>();
    private final int[] refusals = new int[10];
    private Image image = null;

    private int no(int number) {
        refusals[-number]++;
        return number;
    }

    private boolean isLine(int i) {
        return 0 <= i && i < lines.size();
    }

    private boolean isLooker(int i) {
        return 0 <= i && i < minds.size();
    }

    // ---- lines

    private List<Integer> ahead(List<Line> of, int line) {
        List<Integer> ahead = new ArrayList<>();
        for (int i = 0; i < line; i++) {
            if (of.get(i).column() == of.get(line).column()) {
                ahead.add(i);
            }
        }
        return ahead;
    }

    private int worth(List<Line> of, int i, int as) {
        Line line = of.get(i);
        List<Integer> ahead = ahead(of, i);
        switch (as) {
            case 1:
                return worth(of, i, 0) / 2;
            case 2:
                return worth(of, i, 0);
            case 3:
                boolean two = !ahead.isEmpty() && of.get(ahead.get(ahead.size() - 1)).kind() != 3;
                return worth(of, i, 1) + (two ? 2 : 0);
            case 4:
                return worth(of, i, 2) + 5;
            case 5:
                return worth(of, i, 0) + ahead.size();
            default:
                return line.figure();
        }
    }

    private int worth(int i) {
        return worth(lines, i, lines.get(i).kind());
    }

    private int worthOf(Iterable<Integer> some) {
        int sum = 0;
        for (int i : some) {
            sum += worth(i);
        }
        return sum;
    }

    private int takesAs(Line line, int pace, int as) {
        return switch (as) {
            case 1 -> Math.max(1, takesAs(line, pace, 0) / 2);
            case 2 -> takesAs(line, pace, 0) + line.figure();
            case 3 -> takesAs(line, pace, 1);
            case 4 -> takesAs(line, pace, 2) + 3;
            case 5 -> takesAs(line, pace, 0);
            default -> line.seconds() * pace;
        };
    }

    // ---- reading in mind; a null answer: it can't be

    private Mind readOn(Mind m, Holder h, int column) {
        if (m.cut() || column < 0 || column > 3 || !h.shows(m.seat(), column)) {
            return null;
        }
        for (int i = 0; i < lines.size(); i++) {
            if (lines.get(i).column() == column && !m.read().contains(i)) {
                return withLine(m, h, i);
            }
        }
        return null;
    }

    private Mind withLine(Mind m, Holder h, int i) {
        int takes = takesAs(lines.get(i), m.pace(), lines.get(i).kind());
        int second = m.second() + takes;
        int on = m.on() + takes;
        int noticed = m.noticed();
        if (on > m.nerve()) {
            noticed = noticed + 1;
            on = 0;
        }
        boolean had = second <= h.turns(noticed);
        List<Integer> read = new ArrayList<>(m.read());
        if (had) {
            read.add(i);
        }
        return new Mind(m.seat(), m.pace(), m.nerve(), second, on, noticed, read, !had);
    }

    private Mind lookAway(Mind m, Holder h, int seconds) {
        int second = m.second() + seconds;
        return new Mind(m.seat(), m.pace(), m.nerve(), second, 0, m.noticed(), m.read(), second > h.turns(m.noticed()));
    }

    /** The best row, if what takes it above a second is not read. */
    private Row bestRow(Mind m, Holder h, int out) {
        List<Row> shortestFirst = new ArrayList<>();
        shortestFirst.add(new Row(List.of(), m));
        Row best = shortestFirst.get(0);
        for (int at = 0; at < shortestFirst.size(); at++) {
            Row row = shortestFirst.get(at);
            if (worthOf(row.after().read()) > worthOf(best.after().read())) {
                best = row;
            }
            for (int c = 0; c < 4; c++) {
                Mind then = readOn(row.after(), h, c);
                if (then != null && then.second() <= out) {
                    List<Integer> columns = new ArrayList<>(row.columns());
                    columns.add(c);
                    shortestFirst.add(new Row(columns, then));
                }
            }
        }
        return best;
    }

    private int mostOf(Mind m, Holder h) {
        return worthOf(bestRow(m, h, 1000000).after().read());
    }

    private int mostOfAll(Holder h) {
        int sum = 0;
        for (Mind m : minds) {
            sum += mostOf(m, h);
        }
        return sum;
    }

    // ---- the calls

    int feed(int letter) {
        if (letter < 0) {
            return no(-4);
        }
        if (letter > 255 || letters.length() == 96) {
            return no(-6);
        }
        letters.append((char) letter);
        return letters.length();
    }

    private static final String STATEMENT = "(l\\d{4};|h\\d{4};|t[-+0];|k\\d{3,4};)";
    private static final Pattern TRAIN = Pattern.compile(STATEMENT + "+", Pattern.DOTALL);
    private static final Pattern GOES_ON =
            Pattern.compile(STATEMENT + "*(l\\d{0,4}|h\\d{0,4}|t[-+0]?|k\\d{0,4})?", Pattern.DOTALL);

    int train() {
        String text = letters.toString();
        letters.setLength(0);
        for (int i = 0; i < text.length(); i++) {
            if (!GOES_ON.matcher(text.substring(0, i + 1)).matches()) {
                return -1000 - i;
            }
        }
        if (!TRAIN.matcher(text).matches()) {
            return -1000 - text.length();
        }
        return takeStatements(text);
    }

    private int takeStatements(String text) {
        List<Line> newLines = new ArrayList<>(lines);
        List<Mind> newMinds = new ArrayList<>(minds);
        Holder newHolder = holder;
        int place = 0;
        int n = 0;
        for (String s : text.split(";")) {
            boolean fine = true;
            int[] d = new int[5];
            for (int i = 1; i < s.length(); i++) {
                d[i] = s.charAt(i) - '0';
            }
            if (s.charAt(0) == 'l') {
                fine = d[1] <= 3 && d[2] <= 5 && d[4] >= 1 && newLines.size() < 8;
                newLines.add(new Line(d[1], d[2], d[3], d[4]));
            } else if (s.charAt(0) == 'h') {
                int base = Integer.parseInt(s.substring(3));
                fine = d[1] <= 5 && base >= 10 && base <= 99;
                newHolder = new Holder(d[1], d[2], base, newHolder.tilt(), 0);
            } else if (s.charAt(0) == 't') {
                newHolder = newHolder.withTilt(s.charAt(1) == '+' ? 1 : s.charAt(1) == '-' ? -1 : 0);
            } else {
                int nerve = Integer.parseInt(s.substring(3));
                fine = d[1] <= 2 && d[2] >= 1 && d[2] <= 4 && nerve >= 1 && nerve <= 30 && newMinds.size() < 4;
                newMinds.add(new Mind(d[1], d[2], nerve, 0, 0, 0, List.of(), false));
            }
            if (!fine) {
                return -2000 - place;
            }
            place += s.length() + 1;
            n++;
        }
        lines = newLines;
        minds = newMinds;
        holder = newHolder;
        return n;
    }

    int line(int line, int what) {
        if (!isLine(line)) {
            return no(-1);
        }
        Line l = lines.get(line);
        return switch (what) {
            case 0 -> l.column();
            case 1 -> l.kind();
            case 2 -> l.figure();
            case 3 -> l.seconds();
            case 4 -> worth(line);
            case 5 -> ahead(lines, line).size();
            default -> no(-2);
        };
    }

    int holder(int what) {
        return switch (what) {
            case 0 -> holder.kind();
            case 1 -> holder.figure();
            case 2 -> holder.base();
            case 3 -> holder.tilt() + 1;
            default -> no(-2);
        };
    }

    int looker(int looker, int what) {
        if (!isLooker(looker)) {
            return no(-1);
        }
        Mind m = minds.get(looker);
        return switch (what) {
            case 0 -> m.seat();
            case 1 -> m.pace();
            case 2 -> m.nerve();
            case 3 -> m.second();
            case 4 -> m.on();
            case 5 -> m.noticed();
            case 6 -> bits(m.read());
            case 7 -> m.cut() ? 1 : 0;
            case 8 -> holder.turns(m.noticed());
            case 9 -> worthOf(m.read());
            default -> no(-2);
        };
    }

    private static int bits(List<Integer> some) {
        int bits = 0;
        for (int i : some) {
            bits += (int) Math.pow(2, i);
        }
        return bits;
    }

    int takes(int line, int looker) {
        if (!isLine(line) || !isLooker(looker)) {
            return no(-1);
        }
        return takesAs(lines.get(line), minds.get(looker).pace(), lines.get(line).kind());
    }

    int shows(int seat) {
        if (seat < 0) {
            return no(-4);
        }
        if (seat > 2) {
            return no(-6);
        }
        List<Integer> shown = new ArrayList<>();
        for (int c = 0; c < 4; c++) {
            if (holder.shows(seat, c)) {
                shown.add(c);
            }
        }
        return bits(shown);
    }

    int tilt(int v) {
        if (v < -1) {
            return no(-4);
        }
        if (v > 1) {
            return no(-6);
        }
        int was = holder.tilt();
        holder = holder.withTilt(v);
        return was + 1;
    }

    int base(int v) {
        if (v < 10) {
            return no(-4);
        }
        if (v > 99) {
            return no(-6);
        }
        int was = holder.base();
        holder = holder.withBase(v);
        return was;
    }

    private static Mind seated(Mind m, int seat) {
        return new Mind(seat, m.pace(), m.nerve(), m.second(), m.on(), m.noticed(), m.read(), m.cut());
    }

    int sit(int looker, int seat) {
        if (!isLooker(looker)) {
            return no(-1);
        }
        if (seat < 0) {
            return no(-4);
        }
        if (seat > 2) {
            return no(-6);
        }
        int was = minds.get(looker).seat();
        minds.set(looker, seated(minds.get(looker), seat));
        return was;
    }

    int read(int looker, int column) {
        if (!isLooker(looker) || column < 0 || column > 3) {
            return no(-1);
        }
        Mind then = readOn(minds.get(looker), holder, column);
        if (then == null) {
            return no(-3);
        }
        minds.set(looker, then);
        return then.cut() ? -9 : then.read().get(then.read().size() - 1);
    }

    int away(int looker, int seconds) {
        if (!isLooker(looker)) {
            return no(-1);
        }
        if (seconds < 1) {
            return no(-4);
        }
        if (seconds > 60) {
            return no(-6);
        }
        if (minds.get(looker).cut()) {
            return no(-3);
        }
        minds.set(looker, lookAway(minds.get(looker), holder, seconds));
        return minds.get(looker).second();
    }

    int page() {
        int sum = 0;
        for (int i = 0; i < minds.size(); i++) {
            Mind m = minds.get(i);
            sum += m.read().size();
            minds.set(i, new Mind(m.seat(), m.pace(), m.nerve(), 0, 0, 0, List.of(), false));
        }
        return sum;
    }

    int most(int looker) {
        return isLooker(looker) ? mostOf(minds.get(looker), holder) : no(-1);
    }

    int plan(int looker, int i) {
        if (!isLooker(looker)) {
            return no(-1);
        }
        if (i < 0) {
            return no(-4);
        }
        List<Integer> plan = bestRow(minds.get(looker), holder, 1000000).columns();
        return i < plan.size() ? plan.get(i) : -9;
    }

    int by(int looker, int second) {
        if (!isLooker(looker)) {
            return no(-1);
        }
        if (second < 0) {
            return no(-4);
        }
        if (second > 999) {
            return no(-6);
        }
        return worthOf(bestRow(minds.get(looker), holder, second).after().read());
    }

    int rest(int looker, int what) {
        if (!isLooker(looker)) {
            return no(-1);
        }
        if (what < 0 || what > 1) {
            return no(-2);
        }
        int[] mosts = new int[10];
        int greatest = 0;
        for (int s = 0; s <= 9; s++) {
            Mind m = minds.get(looker);
            mosts[s] = mostOf(s == 0 || m.cut() ? m : lookAway(m, holder, s), holder);
            greatest = Math.max(greatest, mosts[s]);
        }
        int least = 0;
        while (mosts[least] < greatest) {
            least++;
        }
        return what == 0 ? least : greatest;
    }

    int first(int looker) {
        if (!isLooker(looker)) {
            return no(-1);
        }
        int best = -9;
        int greatest = -1;
        for (int c = 3; c >= 0; c--) {
            Mind then = readOn(minds.get(looker), holder, c);
            if (then != null && mostOf(then, holder) >= greatest) {
                greatest = mostOf(then, holder);
                best = c;
            }
        }
        return best;
    }

    int hold() {
        int minus = mostOfAll(holder.withTilt(-1));
        int zero = mostOfAll(holder.withTilt(0));
        int plus = mostOfAll(holder.withTilt(1));
        if (minus <= zero && minus <= plus) {
            return 0;
        }
        return zero <= plus ? 1 : 2;
    }

    int bend() {
        int best = 5;
        for (int k = 4; k >= 0; k--) {
            if (mostOfAll(holder.withKind(k)) <= mostOfAll(holder.withKind(best))) {
                best = k;
            }
        }
        return best;
    }

    int early(int worth) {
        if (worth < 0) {
            return no(-4);
        }
        if (worth > 999) {
            return no(-6);
        }
        for (int b = 99; b >= 10; b--) {
            Holder h = holder.withBase(b);
            if (minds.stream().noneMatch(m -> mostOf(m, h) > worth)) {
                return b;
            }
        }
        return -9;
    }

    int seat(int looker) {
        if (!isLooker(looker)) {
            return no(-1);
        }
        int best = 2;
        for (int s = 1; s >= 0; s--) {
            Mind m = minds.get(looker);
            if (mostOf(seated(m, s), holder) >= mostOf(seated(m, best), holder)) {
                best = s;
            }
        }
        return best;
    }

    int more(int one, int other) {
        if (!isLooker(one) || !isLooker(other) || one == other) {
            return 1000000000 - no(-1);
        }
        return mostOf(minds.get(one), holder) - mostOf(minds.get(other), holder);
    }

    int both(int one, int other) {
        if (!isLooker(one) || !isLooker(other) || one == other) {
            return no(-1);
        }
        List<Integer> had = new ArrayList<>(bestRow(minds.get(one), holder, 1000000).after().read());
        for (int i : bestRow(minds.get(other), holder, 1000000).after().read()) {
            if (!had.contains(i)) {
                had.add(i);
            }
        }
        return worthOf(had);
    }

    long chance(int looker, int d, int part) {
        long refused = 4000000000000000000L;
        if (!isLooker(looker)) {
            return refused - no(-1);
        }
        if (d < 0) {
            return refused - no(-4);
        }
        if (d > 20) {
            return refused - no(-6);
        }
        if (part < 0 || part > 1) {
            return refused - no(-2);
        }
        if (told.stream().anyMatch(c -> c > 3)) {
            return refused - no(-3);
        }
        long sum = 0;
        for (int x = 0; x <= d; x++) {
            Mind m = minds.get(looker);
            for (int c : told) {
                Mind then = readOn(m, holder.withSooner(x), c);
                m = then == null ? m : then;
            }
            sum += worthOf(m.read());
        }
        long common = java.math.BigInteger.valueOf(sum).gcd(java.math.BigInteger.valueOf(d + 1)).longValue();
        return (part == 0 ? sum : d + 1) / common;
    }

    int missed(int looker) {
        if (!isLooker(looker)) {
            return no(-1);
        }
        Mind m = minds.get(looker);
        List<Integer> missed = new ArrayList<>();
        for (int i = 0; i < lines.size(); i++) {
            if (holder.shows(m.seat(), lines.get(i).column()) && !m.read().contains(i)) {
                missed.add(i);
            }
        }
        return bits(missed);
    }

    int left(int looker) {
        if (!isLooker(looker)) {
            return no(-1);
        }
        int sum = 0;
        for (int i = 0; i < lines.size(); i++) {
            sum += minds.get(looker).read().contains(i) ? 0 : worth(i);
        }
        return sum;
    }

    int kinds(int line, int worth) {
        if (!isLine(line)) {
            return no(-1);
        }
        if (worth < 0) {
            return no(-4);
        }
        if (worth > 999) {
            return no(-6);
        }
        List<Integer> can = new ArrayList<>();
        for (int k = 0; k <= 5; k++) {
            List<Line> changed = new ArrayList<>(lines);
            Line l = lines.get(line);
            changed.set(line, new Line(l.column(), k, l.figure(), l.seconds()));
            int sum = 0;
            for (int i = 0; i < changed.size(); i++) {
                sum += changed.get(i).column() == l.column() ? worth(changed, i, changed.get(i).kind()) : 0;
            }
            if (sum == worth) {
                can.add(k);
            }
        }
        return bits(can);
    }

    int row(int v) {
        if (v < 0) {
            return no(-4);
        }
        if (v > 9 || told.size() == 12) {
            return no(-6);
        }
        told.add(v);
        return told.size();
    }

    int judge(int looker) {
        if (!isLooker(looker)) {
            return no(-1);
        }
        List<Integer> row = new ArrayList<>(told);
        told.clear();
        Mind m = minds.get(looker);
        for (int i = 0; i < row.size(); i++) {
            if (m.cut()) {
                return i;
            }
            m = row.get(i) == 9 ? lookAway(m, holder, 1) : readOn(m, holder, row.get(i));
            if (m == null || m.cut()) {
                return i;
            }
        }
        return -9;
    }

    int seeds(int looker, int n, int z, int what) {
        if (!isLooker(looker)) {
            return no(-1);
        }
        if (n < 1) {
            return no(-4);
        }
        if (n > 20) {
            return no(-6);
        }
        if (what < 0 || what > 1) {
            return no(-2);
        }
        Mind m = minds.get(looker);
        long seed = z;
        for (int i = 0; i < n && !m.cut(); i++) {
            seed = (int) (seed * 1103515245L + 12345L);
            long draw = (seed < 0 ? seed + 2147483648L : seed) / 65536 % 5;
            Mind then = draw == 4 ? lookAway(m, holder, 1) : readOn(m, holder, (int) draw);
            m = then == null ? m : then;
        }
        return what == 0 ? worthOf(m.read()) : m.noticed();
    }

    int image() {
        image = new Image(List.copyOf(lines), holder, List.copyOf(minds));
        return lines.size();
    }

    int restore() {
        if (image == null) {
            return no(-3);
        }
        lines = new ArrayList<>(image.lines());
        holder = image.holder();
        minds = new ArrayList<>(image.minds());
        return lines.size();
    }

    int count(int what) {
        switch (what) {
            case 0:
                return lines.size();
            case 1:
                return minds.size();
            case 2:
                int sum = 0;
                for (int i = 0; i < lines.size(); i++) {
                    sum += worth(i);
                }
                return sum;
            case 3:
                return (int) minds.stream().filter(Mind::cut).count();
            case 4, 5, 6, 7:
                return (int) lines.stream().filter(l -> l.column() == what - 4).count();
            case 8:
                return letters.length();
            case 9:
                return told.size();
            case 11, 12, 13, 14, 15, 16:
                return refusals[what - 10];
            default:
                return -9;
        }
    }
}
