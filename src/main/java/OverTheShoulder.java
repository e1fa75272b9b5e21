/**
 * A page of columns and lines that somebody holds and turns, and lookers on seats who read along.
 *
 * <p>Every array is reached through at, put or a function that tests the index, and everything that is only thought
 * ("in mind") runs on the two copies thoughtHolder and thoughtLooker, so that no call makes an object.
 */
public final class OverTheShoulder {

    private static final int COLUMNS = 4;
    private static final int LINES = 8;
    private static final int LOOKERS = 4;
    private static final int SEATS = 3;
    private static final int LETTERS = 96;
    private static final int ROW_NUMBERS = 12;

    private static final int KINDS = 6;
    private static final int SKIMMED = 1;
    private static final int SHADOWED = 2;
    private static final int GUESSED = 3;
    private static final int FORBIDDEN = 4;
    private static final int END = 5;
    private static final int SLOW = 1;
    private static final int KINDLY = 2;
    private static final int SHARP = 3;
    private static final int HIDING = 4;
    private static final int FOLDING = 5;

    private static final int LEAST_BASE = 10;
    private static final int GREATEST_BASE = 99;
    private static final int GREATEST_NERVE = 30;
    private static final int GREATEST_PACE = 4;
    private static final int GREATEST_LETTER = 255;
    private static final int GREATEST_TOLD = 999;
    private static final int GREATEST_AWAY = 60;
    private static final int GREATEST_REST = 9;
    private static final int GREATEST_DRAW = 20;
    private static final int GREATEST_TIMES = 20;
    private static final int LOOK_AWAY = 9;
    /** Above every second and every worth that can come. */
    private static final int ENDLESS = 1000000;
    private static final int ALL_BUT_SIGN = 0x7fffffff;

    private static final int NONE = -9;
    private static final int NOBODY = -1;
    private static final int OTHER = -2;
    private static final int STATE = -3;
    private static final int BELOW = -4;
    private static final int ROOM = -6;
    private static final int REFUSALS = 6;
    private static final int FORM_FAULT = -1000;
    private static final int SENSE_FAULT = -2000;
    private static final int REFUSED_INT = 1000000000;
    private static final long REFUSED_LONG = 4000000000000000000L;

    private final Scene scene;
    private final Scene kept;
    private final Letters letters;
    private final Search search;
    private final Holder thoughtHolder;
    private final Looker thoughtLooker;
    private final int[] rowNumbers;
    private final int[] refusals;
    private int rowLength;
    private boolean imageTaken;

    public OverTheShoulder() {
        scene = new Scene();
        kept = new Scene();
        letters = new Letters();
        search = new Search();
        thoughtHolder = new Holder();
        thoughtLooker = new Looker();
        rowNumbers = new int[ROW_NUMBERS];
        refusals = new int[REFUSALS + 1];
        rowLength = 0;
        imageTaken = false;
    }

    public int feed(int letter) {
        if (letter < 0) {
            return refuse(BELOW);
        }
        if (letter > GREATEST_LETTER || letters.isFull()) {
            return refuse(ROOM);
        }
        letters.add(letter);
        return letters.told;
    }

    public int train() {
        int answer = takeTrain();
        letters.told = 0;
        return answer;
    }

    public int line(int line, int what) {
        Sheet sheet = scene.sheet;
        if (!sheet.has(line)) {
            return refuse(NOBODY);
        }
        switch (what) {
            case 0:
                return sheet.columnOf(line);
            case 1:
                return sheet.kindOf(line);
            case 2:
                return sheet.figureOf(line);
            case 3:
                return sheet.secondsOf(line);
            case 4:
                return sheet.worthOf(line);
            case 5:
                return sheet.aheadOf(line);
            default:
                return refuse(OTHER);
        }
    }

    public int holder(int what) {
        switch (what) {
            case 0:
                return scene.held.kind;
            case 1:
                return scene.held.figure;
            case 2:
                return scene.held.baseSeconds;
            case 3:
                return scene.held.tilted + 1;
            default:
                return refuse(OTHER);
        }
    }

    public int looker(int looker, int what) {
        Looker who = scene.who(looker);
        if (who == null) {
            return refuse(NOBODY);
        }
        switch (what) {
            case 0:
                return who.place;
            case 1:
                return who.pace;
            case 2:
                return who.nerve;
            case 3:
                return who.second;
            case 4:
                return who.on;
            case 5:
                return who.noticed;
            case 6:
                return who.readLines;
            case 7:
                return who.cutOff ? 1 : 0;
            case 8:
                return scene.held.turnsAt(who.noticed);
            case 9:
                return scene.sheet.worthOfBits(who.readLines);
            default:
                return refuse(OTHER);
        }
    }

    public int takes(int line, int looker) {
        Looker who = scene.who(looker);
        if (!scene.sheet.has(line) || who == null) {
            return refuse(NOBODY);
        }
        return scene.sheet.costOf(line, who.pace);
    }

    public int shows(int seat) {
        int refusal = outside(seat, 0, SEATS - 1);
        if (refusal != 0) {
            return refuse(refusal);
        }
        return scene.held.columnsFor(seat);
    }

    public int tilt(int v) {
        int refusal = outside(v, -1, 1);
        if (refusal != 0) {
            return refuse(refusal);
        }
        int was = scene.held.tilted;
        scene.held.tilted = v;
        return was + 1;
    }

    public int base(int v) {
        int refusal = outside(v, LEAST_BASE, GREATEST_BASE);
        if (refusal != 0) {
            return refuse(refusal);
        }
        int was = scene.held.baseSeconds;
        scene.held.baseSeconds = v;
        return was;
    }

    public int sit(int looker, int seat) {
        Looker who = scene.who(looker);
        if (who == null) {
            return refuse(NOBODY);
        }
        int refusal = outside(seat, 0, SEATS - 1);
        if (refusal != 0) {
            return refuse(refusal);
        }
        int was = who.place;
        who.place = seat;
        return was;
    }

    public int read(int looker, int column) {
        Looker who = scene.who(looker);
        if (who == null || column < 0 || column >= COLUMNS) {
            return refuse(NOBODY);
        }
        int line = who.readOn(scene.sheet, scene.held, column);
        return line == STATE ? refuse(STATE) : line;
    }

    public int away(int looker, int seconds) {
        Looker who = scene.who(looker);
        if (who == null) {
            return refuse(NOBODY);
        }
        int refusal = outside(seconds, 1, GREATEST_AWAY);
        if (refusal != 0) {
            return refuse(refusal);
        }
        if (who.cutOff) {
            return refuse(STATE);
        }
        who.lookAway(scene.held, seconds);
        return who.second;
    }

    public int page() {
        int together = 0;
        for (int i = 0; i < scene.lookers; i++) {
            Looker who = scene.who(i);
            if (who != null) {
                together += Integer.bitCount(who.readLines);
                who.startPage();
            }
        }
        return together;
    }

    public int most(int looker) {
        Looker who = scene.who(looker);
        return who == null ? refuse(NOBODY) : mostOf(who);
    }

    public int plan(int looker, int i) {
        Looker who = scene.who(looker);
        if (who == null) {
            return refuse(NOBODY);
        }
        if (i < 0) {
            return refuse(BELOW);
        }
        mostOf(who);
        return search.planned(i);
    }

    public int by(int looker, int second) {
        Looker who = scene.who(looker);
        if (who == null) {
            return refuse(NOBODY);
        }
        int refusal = outside(second, 0, GREATEST_TOLD);
        if (refusal != 0) {
            return refuse(refusal);
        }
        return search.greatest(scene.sheet, scene.held, who, second);
    }

    public int rest(int looker, int what) {
        Looker who = scene.who(looker);
        if (who == null) {
            return refuse(NOBODY);
        }
        if (what != 0 && what != 1) {
            return refuse(OTHER);
        }
        int seconds = 0;
        int greatest = mostOf(who);
        for (int tried = 1; tried <= GREATEST_REST && !who.cutOff; tried++) {
            thoughtLooker.become(who);
            thoughtLooker.lookAway(scene.held, tried);
            int worth = mostOf(thoughtLooker);
            if (worth > greatest) {
                greatest = worth;
                seconds = tried;
            }
        }
        return what == 0 ? seconds : greatest;
    }

    public int first(int looker) {
        Looker who = scene.who(looker);
        if (who == null) {
            return refuse(NOBODY);
        }
        int best = NONE;
        int greatest = -1;
        for (int column = 0; column < COLUMNS; column++) {
            thoughtLooker.become(who);
            boolean can = thoughtLooker.readOn(scene.sheet, scene.held, column) != STATE;
            int worth = can ? mostOf(thoughtLooker) : -1;
            if (worth > greatest) {
                greatest = worth;
                best = column;
            }
        }
        return best;
    }

    public int hold() {
        int best = 0;
        int least = ENDLESS;
        thoughtHolder.become(scene.held);
        for (int tilted = -1; tilted <= 1; tilted++) {
            thoughtHolder.tilted = tilted;
            int together = mostTogether();
            if (together < least) {
                least = together;
                best = tilted;
            }
        }
        return best + 1;
    }

    public int bend() {
        int best = 0;
        int least = ENDLESS;
        thoughtHolder.become(scene.held);
        for (int kind = 0; kind < KINDS; kind++) {
            thoughtHolder.kind = kind;
            int together = mostTogether();
            if (together < least) {
                least = together;
                best = kind;
            }
        }
        return best;
    }

    public int early(int worth) {
        int refusal = outside(worth, 0, GREATEST_TOLD);
        if (refusal != 0) {
            return refuse(refusal);
        }
        if (someoneAbove(worth, LEAST_BASE)) {
            return NONE;
        }
        // A greater BASE cuts no row short that a lesser one lets through, so the good ones have no gap between them.
        int good = LEAST_BASE;
        for (int step = 64; step > 0; step /= 2) {
            if (good + step <= GREATEST_BASE && !someoneAbove(worth, good + step)) {
                good += step;
            }
        }
        return good;
    }

    public int seat(int looker) {
        Looker who = scene.who(looker);
        if (who == null) {
            return refuse(NOBODY);
        }
        int best = 0;
        int greatest = -1;
        thoughtLooker.become(who);
        for (int place = 0; place < SEATS; place++) {
            thoughtLooker.place = place;
            int worth = mostOf(thoughtLooker);
            if (worth > greatest) {
                greatest = worth;
                best = place;
            }
        }
        return best;
    }

    public int more(int one, int other) {
        Looker who = scene.who(one);
        Looker whoElse = scene.who(other);
        if (who == null || whoElse == null || one == other) {
            return REFUSED_INT - refuse(NOBODY);
        }
        return mostOf(who) - mostOf(whoElse);
    }

    public int both(int one, int other) {
        Looker who = scene.who(one);
        Looker whoElse = scene.who(other);
        if (who == null || whoElse == null || one == other) {
            return refuse(NOBODY);
        }
        return scene.sheet.worthOfBits(readByPlan(who) | readByPlan(whoElse));
    }

    public long chance(int looker, int d, int part) {
        Looker who = scene.who(looker);
        if (who == null) {
            return REFUSED_LONG - refuse(NOBODY);
        }
        int refusal = outside(d, 0, GREATEST_DRAW);
        if (refusal == 0 && part != 0 && part != 1) {
            refusal = OTHER;
        }
        if (refusal == 0 && rowHasNoColumn()) {
            refusal = STATE;
        }
        if (refusal != 0) {
            return REFUSED_LONG - refuse(refusal);
        }
        int sum = 0;
        for (int sooner = 0; sooner <= d; sooner++) {
            sum += worthByRow(who, sooner);
        }
        int common = Math.max(1, commonDivisor(sum, d + 1));
        return part == 0 ? sum / common : (d + 1) / common;
    }

    public int missed(int looker) {
        Looker who = scene.who(looker);
        if (who == null) {
            return refuse(NOBODY);
        }
        return scene.sheet.linesOfColumns(scene.held.columnsFor(who.place)) & ~who.readLines;
    }

    public int left(int looker) {
        Looker who = scene.who(looker);
        if (who == null) {
            return refuse(NOBODY);
        }
        return scene.sheet.worthOfBits(~who.readLines);
    }

    public int kinds(int line, int worth) {
        Sheet sheet = scene.sheet;
        if (!sheet.has(line)) {
            return refuse(NOBODY);
        }
        int refusal = outside(worth, 0, GREATEST_TOLD);
        if (refusal != 0) {
            return refuse(refusal);
        }
        int inColumn = sheet.linesOfColumns(1 << sheet.columnOf(line));
        int was = sheet.kindOf(line);
        int bits = 0;
        for (int kind = 0; kind < KINDS; kind++) {
            sheet.setKind(line, kind);
            if (sheet.worthOfBits(inColumn) == worth) {
                bits |= 1 << kind;
            }
        }
        sheet.setKind(line, was);
        return bits;
    }

    public int row(int v) {
        if (v < 0) {
            return refuse(BELOW);
        }
        if (v > LOOK_AWAY || rowLength >= ROW_NUMBERS) {
            return refuse(ROOM);
        }
        put(rowNumbers, rowLength, v);
        rowLength++;
        return rowLength;
    }

    public int judge(int looker) {
        Looker who = scene.who(looker);
        if (who == null) {
            return refuse(NOBODY);
        }
        thoughtLooker.become(who);
        int answer = NONE;
        for (int i = 0; i < rowLength && answer == NONE; i++) {
            if (!goesOn(thoughtLooker, at(rowNumbers, i))) {
                answer = i;
            }
        }
        rowLength = 0;
        return answer;
    }

    public int seeds(int looker, int n, int z, int what) {
        Looker who = scene.who(looker);
        if (who == null) {
            return refuse(NOBODY);
        }
        int refusal = outside(n, 1, GREATEST_TIMES);
        if (refusal == 0 && what != 0 && what != 1) {
            refusal = OTHER;
        }
        if (refusal != 0) {
            return refuse(refusal);
        }
        thoughtLooker.become(who);
        int seed = z;
        for (int time = 0; time < n && !thoughtLooker.cutOff; time++) {
            seed = seed * 1103515245 + 12345;
            int draw = (seed & ALL_BUT_SIGN) / 65536 % (COLUMNS + 1);
            goesOn(thoughtLooker, draw < COLUMNS ? draw : LOOK_AWAY);
        }
        return what == 0 ? scene.sheet.worthOfBits(thoughtLooker.readLines) : thoughtLooker.noticed;
    }

    public int image() {
        kept.become(scene);
        imageTaken = true;
        return scene.sheet.lines;
    }

    public int restore() {
        if (!imageTaken) {
            return refuse(STATE);
        }
        scene.become(kept);
        return scene.sheet.lines;
    }

    public int count(int what) {
        if (what >= 4 && what < 4 + COLUMNS) {
            return Integer.bitCount(scene.sheet.linesOfColumns(1 << (what - 4)));
        }
        if (what > 10 && what <= 10 + REFUSALS) {
            return at(refusals, what - 10);
        }
        switch (what) {
            case 0:
                return scene.sheet.lines;
            case 1:
                return scene.lookers;
            case 2:
                return scene.sheet.worthOfBits(~0);
            case 3:
                return scene.cutOffLookers();
            case 8:
                return letters.told;
            case 9:
                return rowLength;
            default:
                return NONE;
        }
    }

    private static int at(int[] numbers, int i) {
        return numbers != null && i >= 0 && i < numbers.length ? numbers[i] : 0;
    }

    private static void put(int[] numbers, int i, int number) {
        if (numbers != null && i >= 0 && i < numbers.length) {
            numbers[i] = number;
        }
    }

    /** BELOW or ROOM, if a number is out of its range; else 0. */
    private static int outside(int number, int least, int greatest) {
        if (number < least) {
            return BELOW;
        }
        return number > greatest ? ROOM : 0;
    }

    private static int commonDivisor(int one, int other) {
        for (int divisor = other; divisor > 1; divisor--) {
            if (one % divisor == 0 && other % divisor == 0) {
                return divisor;
            }
        }
        return 1;
    }

    private int refuse(int number) {
        put(refusals, -number, at(refusals, -number) + 1);
        return number;
    }

    private int takeTrain() {
        int place = letters.formFault();
        if (place != NONE) {
            return FORM_FAULT - place;
        }
        place = letters.senseFault(scene.sheet.lines, scene.lookers);
        if (place != NONE) {
            return SENSE_FAULT - place;
        }
        return letters.bringAll(scene);
    }

    private int mostOf(Looker who) {
        return search.greatest(scene.sheet, scene.held, who, ENDLESS);
    }

    private int mostTogether() {
        int together = 0;
        for (int i = 0; i < scene.lookers; i++) {
            Looker who = scene.who(i);
            if (who != null) {
                together += search.greatest(scene.sheet, thoughtHolder, who, ENDLESS);
            }
        }
        return together;
    }

    private boolean someoneAbove(int worth, int baseSeconds) {
        thoughtHolder.become(scene.held);
        thoughtHolder.baseSeconds = baseSeconds;
        for (int i = 0; i < scene.lookers; i++) {
            Looker who = scene.who(i);
            if (who != null && search.greatest(scene.sheet, thoughtHolder, who, ENDLESS) > worth) {
                return true;
            }
        }
        return false;
    }

    private int readByPlan(Looker who) {
        search.greatest(scene.sheet, scene.held, who, ENDLESS);
        int readLines = who.readLines;
        for (int i = 0; i < search.bestLength; i++) {
            int line = scene.sheet.nextLine(search.planned(i), readLines);
            if (line != NONE) {
                readLines |= 1 << line;
            }
        }
        return readLines;
    }

    private boolean rowHasNoColumn() {
        for (int i = 0; i < rowLength; i++) {
            if (at(rowNumbers, i) >= COLUMNS) {
                return true;
            }
        }
        return false;
    }

    private int worthByRow(Looker who, int sooner) {
        thoughtHolder.become(scene.held);
        thoughtHolder.sooner = sooner;
        thoughtLooker.become(who);
        for (int i = 0; i < rowLength; i++) {
            thoughtLooker.readOn(scene.sheet, thoughtHolder, at(rowNumbers, i));
        }
        return scene.sheet.worthOfBits(thoughtLooker.readLines);
    }

    /** Reads on in a column, or looks away one second; whether that can be and cuts nobody off. */
    private boolean goesOn(Looker who, int number) {
        if (who.cutOff) {
            return false;
        }
        if (number == LOOK_AWAY) {
            who.lookAway(scene.held, 1);
            return !who.cutOff;
        }
        return who.readOn(scene.sheet, scene.held, number) >= 0;
    }

    /** The lines, in the order in which they came. */
    private static final class Sheet {
        private final int[] column = new int[LINES];
        private final int[] kind = new int[LINES];
        private final int[] figure = new int[LINES];
        private final int[] seconds = new int[LINES];
        private int lines = 0;

        boolean has(int line) {
            return line >= 0 && line < lines;
        }

        void add(int inColumn, int ofKind, int withFigure, int withSeconds) {
            if (lines < LINES) {
                put(column, lines, inColumn);
                put(kind, lines, ofKind);
                put(figure, lines, withFigure);
                put(seconds, lines, withSeconds);
                lines++;
            }
        }

        void become(Sheet other) {
            for (int line = 0; line < LINES; line++) {
                put(column, line, other.columnOf(line));
                put(kind, line, other.kindOf(line));
                put(figure, line, other.figureOf(line));
                put(seconds, line, other.secondsOf(line));
            }
            lines = other.lines;
        }

        int columnOf(int line) {
            return at(column, line);
        }

        int kindOf(int line) {
            return at(kind, line);
        }

        void setKind(int line, int ofKind) {
            put(kind, line, ofKind);
        }

        int figureOf(int line) {
            return at(figure, line);
        }

        int secondsOf(int line) {
            return at(seconds, line);
        }

        int aheadOf(int line) {
            int ahead = 0;
            for (int other = 0; other < line && other < lines; other++) {
                if (at(column, other) == at(column, line)) {
                    ahead++;
                }
            }
            return ahead;
        }

        int costOf(int line, int pace) {
            int plain = secondsOf(line) * pace;
            switch (kindOf(line)) {
                case SKIMMED:
                case GUESSED:
                    return Math.max(1, plain / 2);
                case SHADOWED:
                    return plain + figureOf(line);
                case FORBIDDEN:
                    return plain + figureOf(line) + 3;
                default:
                    return plain;
            }
        }

        int worthOf(int line) {
            int plain = figureOf(line);
            switch (kindOf(line)) {
                case SKIMMED:
                    return plain / 2;
                case GUESSED:
                    return plain / 2 + (isHelped(line) ? 2 : 0);
                case FORBIDDEN:
                    return plain + 5;
                case END:
                    return plain + aheadOf(line);
                default:
                    return plain;
            }
        }

        /** Whether the line just ahead in the column, if there is one, is itself no guess. */
        private boolean isHelped(int line) {
            boolean helped = false;
            for (int other = 0; other < line && other < lines; other++) {
                if (at(column, other) == at(column, line)) {
                    helped = at(kind, other) != GUESSED;
                }
            }
            return helped;
        }

        int worthOfBits(int bits) {
            int worth = 0;
            for (int line = 0; line < lines; line++) {
                if ((bits >> line & 1) != 0) {
                    worth += worthOf(line);
                }
            }
            return worth;
        }

        int linesOfColumns(int columns) {
            int bits = 0;
            for (int line = 0; line < lines; line++) {
                if ((columns >> columnOf(line) & 1) != 0) {
                    bits |= 1 << line;
                }
            }
            return bits;
        }

        /** The first line of a column that is not among the read ones; NONE without such. */
        int nextLine(int inColumn, int readLines) {
            for (int line = 0; line < lines; line++) {
                if (columnOf(line) == inColumn && (readLines >> line & 1) == 0) {
                    return line;
                }
            }
            return NONE;
        }
    }

    private static final class Holder {
        private int kind = 0;
        private int figure = 0;
        private int baseSeconds = 30;
        private int tilted = 0;
        /** How much sooner than else he turns; only ever above 0 in mind. */
        private int sooner = 0;

        void become(Holder other) {
            kind = other.kind;
            figure = other.figure;
            baseSeconds = other.baseSeconds;
            tilted = other.tilted;
            sooner = other.sooner;
        }

        int turnsAt(int noticed) {
            return Math.max(0, baseSeconds + delay(noticed) - sooner);
        }

        private int delay(int noticed) {
            switch (kind) {
                case SLOW:
                    return 3 * figure;
                case KINDLY:
                    return 3 * figure + 5 * noticed;
                case SHARP:
                    return -4 * noticed;
                case HIDING:
                    return -4 * noticed - figure;
                default:
                    return 0;
            }
        }

        int columnsFor(int place) {
            int bits = 0;
            for (int column = 0; column < COLUMNS; column++) {
                if (isShown(column, place)) {
                    bits |= 1 << column;
                }
            }
            return bits;
        }

        private boolean isShown(int column, int place) {
            int off = Math.abs(column + tilted - place);
            switch (kind) {
                case HIDING:
                    return off == 0;
                case FOLDING:
                    return off <= 1 && column >= figure % 4;
                default:
                    return off <= 1;
            }
        }
    }

    private static final class Looker {
        private int place = 0;
        private int pace = 1;
        private int nerve = 1;
        private int second = 0;
        private int on = 0;
        private int noticed = 0;
        private int readLines = 0;
        private boolean cutOff = false;

        void come(int onPlace, int withPace, int withNerve) {
            place = onPlace;
            pace = withPace;
            nerve = withNerve;
            startPage();
        }

        void startPage() {
            second = 0;
            on = 0;
            noticed = 0;
            readLines = 0;
            cutOff = false;
        }

        void become(Looker other) {
            place = other.place;
            pace = other.pace;
            nerve = other.nerve;
            second = other.second;
            on = other.on;
            noticed = other.noticed;
            readLines = other.readLines;
            cutOff = other.cutOff;
        }

        /** The line that is read; NONE if it is cut off by it; STATE if it can't be. */
        int readOn(Sheet sheet, Holder held, int column) {
            boolean seen = column >= 0 && column < COLUMNS && (held.columnsFor(place) >> column & 1) != 0;
            int line = seen && !cutOff ? sheet.nextLine(column, readLines) : NONE;
            if (line == NONE) {
                return STATE;
            }
            int cost = sheet.costOf(line, pace);
            second += cost;
            on += cost;
            if (on > nerve) {
                noticed++;
                on = 0;
            }
            if (second > held.turnsAt(noticed)) {
                cutOff = true;
                return NONE;
            }
            readLines |= 1 << line;
            return line;
        }

        void lookAway(Holder held, int seconds) {
            on = 0;
            second += seconds;
            if (second > held.turnsAt(noticed)) {
                cutOff = true;
            }
        }
    }

    /** All that an image keeps. */
    private static final class Scene {
        private final Sheet sheet = new Sheet();
        private final Holder held = new Holder();
        private final Looker[] all = new Looker[LOOKERS];
        private int lookers = 0;

        Scene() {
            for (int i = 0; i < all.length; i++) {
                all[i] = new Looker();
            }
        }

        /** A looker that is there; null without such. */
        Looker who(int looker) {
            return looker >= 0 && looker < lookers && looker < all.length ? all[looker] : null;
        }

        void addLooker(int place, int pace, int nerve) {
            if (lookers < LOOKERS) {
                lookers++;
                Looker added = who(lookers - 1);
                if (added != null) {
                    added.come(place, pace, nerve);
                }
            }
        }

        int cutOffLookers() {
            int cut = 0;
            for (int i = 0; i < lookers; i++) {
                Looker one = who(i);
                if (one != null && one.cutOff) {
                    cut++;
                }
            }
            return cut;
        }

        void become(Scene other) {
            sheet.become(other.sheet);
            held.become(other.held);
            lookers = other.lookers;
            for (int i = 0; i < lookers; i++) {
                Looker mine = who(i);
                Looker theirs = other.who(i);
                if (mine != null && theirs != null) {
                    mine.become(theirs);
                }
            }
        }
    }

    /** The letters of a train, as far as they are told. */
    private static final class Letters {
        private final int[] letters = new int[LETTERS];
        private int told = 0;

        boolean isFull() {
            return told >= LETTERS;
        }

        void add(int letter) {
            if (!isFull()) {
                put(letters, told, letter);
                told++;
            }
        }

        /** The place of the first letter with which no train can go on, or the end; NONE without such. */
        int formFault() {
            int place = 0;
            for (int statement = 0; statement < LETTERS && (statement == 0 || place < told); statement++) {
                int behind = behindStatement(place);
                if (behind < 0) {
                    return -1 - behind;
                }
                place = behind;
            }
            return NONE;
        }

        /** The place of the first statement that is out of range or finds no room; NONE without such. */
        int senseFault(int linesThere, int lookersThere) {
            int lines = linesThere;
            int lookers = lookersThere;
            int place = 0;
            for (int statement = 0; statement < LETTERS && place >= 0 && place < told; statement++) {
                int sign = letterAt(place);
                lines += sign == 'l' ? 1 : 0;
                lookers += sign == 'k' ? 1 : 0;
                if (lines > LINES || lookers > LOOKERS || !isInRange(place)) {
                    return place;
                }
                place = behindStatement(place);
            }
            return NONE;
        }

        /** Lets all statements come, which must be without fault; how many there are. */
        int bringAll(Scene scene) {
            int place = 0;
            int statements = 0;
            while (statements < LETTERS && place >= 0 && place < told) {
                bring(scene, place);
                place = behindStatement(place);
                statements++;
            }
            return statements;
        }

        private void bring(Scene scene, int place) {
            switch (letterAt(place)) {
                case 'l':
                    scene.sheet.add(digitAt(place + 1), digitAt(place + 2), digitAt(place + 3), digitAt(place + 4));
                    break;
                case 'h':
                    scene.held.kind = digitAt(place + 1);
                    scene.held.figure = digitAt(place + 2);
                    scene.held.baseSeconds = numberAt(place + 3);
                    break;
                case 't':
                    scene.held.tilted = tiltAt(place + 1);
                    break;
                default:
                    scene.addLooker(digitAt(place + 1), digitAt(place + 2), numberAt(place + 3));
                    break;
            }
        }

        private boolean isInRange(int place) {
            int one = digitAt(place + 1);
            int two = digitAt(place + 2);
            switch (letterAt(place)) {
                case 'l':
                    return one < COLUMNS && two < KINDS && digitAt(place + 4) >= 1;
                case 'h':
                    return one < KINDS && numberAt(place + 3) >= LEAST_BASE;
                case 'k':
                    int nerve = numberAt(place + 3);
                    return one < SEATS && two >= 1 && two <= GREATEST_PACE && nerve >= 1 && nerve <= GREATEST_NERVE;
                default:
                    return true;
            }
        }

        /** The place behind the statement at a place; -1 less the place of the first letter that can't be there. */
        private int behindStatement(int place) {
            switch (letterAt(place)) {
                case 'l':
                case 'h':
                    return behindDigits(place + 1, 4, 4);
                case 'k':
                    return behindDigits(place + 1, 3, 4);
                case 't':
                    return behindTilt(place + 1);
                default:
                    return -1 - place;
            }
        }

        private int behindDigits(int place, int least, int greatest) {
            int digits = 0;
            while (digits < greatest && isDigit(letterAt(place + digits))) {
                digits++;
            }
            int behind = place + digits;
            return digits >= least && letterAt(behind) == ';' ? behind + 1 : -1 - behind;
        }

        private int behindTilt(int place) {
            int sign = letterAt(place);
            if (sign != '+' && sign != '-' && sign != '0') {
                return -1 - place;
            }
            return letterAt(place + 1) == ';' ? place + 2 : -2 - place;
        }

        private int tiltAt(int place) {
            switch (letterAt(place)) {
                case '+':
                    return 1;
                case '-':
                    return -1;
                default:
                    return 0;
            }
        }

        /** The letter at a place; -1 behind the end. */
        private int letterAt(int place) {
            return place >= 0 && place < told && place < letters.length ? letters[place] : -1;
        }

        private int digitAt(int place) {
            int letter = letterAt(place);
            return isDigit(letter) ? letter - '0' : 0;
        }

        /** The number of one digit or two. */
        private int numberAt(int place) {
            int number = digitAt(place);
            return isDigit(letterAt(place + 1)) ? 10 * number + digitAt(place + 1) : number;
        }

        private static boolean isDigit(int letter) {
            return letter >= '0' && letter <= '9';
        }
    }

    /**
     * Tries all rows of columns in which a looker reads on. It goes through them in the order of their columns, so of
     * rows alike in worth and length the one that it finds first is the first.
     */
    private static final class Search {
        private final int[] cost = new int[LINES];
        private final int[] worth = new int[LINES];
        private final int[] lineBehind = new int[LINES];
        private final int[] nextInColumn = new int[COLUMNS];
        private final int[] latest = new int[LINES + 1];
        private final int[] secondAt = new int[LINES + 1];
        private final int[] onAt = new int[LINES + 1];
        private final int[] timesAt = new int[LINES + 1];
        private final int[] worthAt = new int[LINES + 1];
        private final int[] tried = new int[LINES];
        private final int[] best = new int[LINES];
        private int nerve = 0;
        private int stillThere = 0;
        private int bestLength = 0;
        private int bestWorth = 0;

        /** The most that a looker can have read, if it gets out at a second. */
        int greatest(Sheet sheet, Holder held, Looker who, int out) {
            prepareLines(sheet, who);
            prepareColumns(sheet, held, who);
            for (int times = 0; times <= LINES; times++) {
                put(latest, times, Math.min(out, held.turnsAt(who.noticed + times)));
            }
            nerve = who.nerve;
            put(secondAt, 0, who.second);
            put(onAt, 0, who.on);
            put(timesAt, 0, 0);
            put(worthAt, 0, sheet.worthOfBits(who.readLines));
            bestLength = 0;
            bestWorth = at(worthAt, 0);
            if (!who.cutOff) {
                goDeeper(0);
            }
            return bestWorth;
        }

        /** The i-th column of the row that was found best; NONE without such. */
        int planned(int i) {
            return i >= 0 && i < bestLength ? at(best, i) : NONE;
        }

        private void prepareLines(Sheet sheet, Looker who) {
            for (int line = 0; line < sheet.lines; line++) {
                put(cost, line, sheet.costOf(line, who.pace));
                put(worth, line, sheet.worthOf(line));
            }
        }

        private void prepareColumns(Sheet sheet, Holder held, Looker who) {
            int open = sheet.linesOfColumns(held.columnsFor(who.place)) & ~who.readLines;
            stillThere = 0;
            for (int column = 0; column < COLUMNS; column++) {
                put(nextInColumn, column, NONE);
            }
            for (int line = sheet.lines - 1; line >= 0; line--) {
                if ((open >> line & 1) != 0) {
                    int column = sheet.columnOf(line);
                    put(lineBehind, line, at(nextInColumn, column));
                    put(nextInColumn, column, line);
                    stillThere += at(worth, line);
                }
            }
        }

        private void goDeeper(int depth) {
            if (depth >= LINES || isHopeless(depth)) {
                return;
            }
            for (int column = 0; column < COLUMNS; column++) {
                int line = at(nextInColumn, column);
                if (line != NONE) {
                    tryLine(depth, column, line);
                }
            }
        }

        /** Whether no longer row can have more than the best one, or as much and be shorter. */
        private boolean isHopeless(int depth) {
            int bound = at(worthAt, depth) + stillThere;
            return bound < bestWorth || bound == bestWorth && depth + 1 >= bestLength;
        }

        private void tryLine(int depth, int column, int line) {
            int second = at(secondAt, depth) + at(cost, line);
            int on = at(onAt, depth) + at(cost, line);
            boolean isNoticed = on > nerve;
            int times = at(timesAt, depth) + (isNoticed ? 1 : 0);
            if (second > at(latest, times)) {
                return;
            }
            int then = depth + 1;
            put(secondAt, then, second);
            put(onAt, then, isNoticed ? 0 : on);
            put(timesAt, then, times);
            put(worthAt, then, at(worthAt, depth) + at(worth, line));
            put(tried, depth, column);
            keepIfBetter(then);
            put(nextInColumn, column, at(lineBehind, line));
            stillThere -= at(worth, line);
            goDeeper(then);
            stillThere += at(worth, line);
            put(nextInColumn, column, line);
        }

        private void keepIfBetter(int length) {
            int had = at(worthAt, length);
            if (had < bestWorth || had == bestWorth && length >= bestLength) {
                return;
            }
            bestWorth = had;
            bestLength = length;
            for (int i = 0; i < length; i++) {
                put(best, i, at(tried, i));
            }
        }
    }
}
