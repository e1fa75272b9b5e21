/** Each bound of what is told by the ROW or drawn by seeds (promises 26, 30, 31 and 32). */
public final class RowEdgesTest {
    private static final int TAKEN = 12;

    private RowEdgesTest() {
    }

    public static void main(String[] args) {
        rowNumbers();
        chanceOfDraws();
        chanceSurely();
        chanceInLeastTerms();
        chanceOfTheWholeRow();
        chanceLeavesOut();
        asTheLookerIs();
        chanceNoughtAtLeast();
        chanceOfNumbersAboveThree();
        judgedEmpty();
        judgedPlaces();
        judgedCutOff();
        judgedLookingAway();
        judgedRowIsGone();
        seedsTimes();
        seedsFirstDraw();
        seedsOfAnyInt();
        seedsAway();
        seedsCutOff();
        seedsWithWhatIsRead();
        Checks.end("RowEdgesTest");
    }

    private static void is(String what, long got, long due) {
        Checks.equal(what, got, due);
    }

    private static OverTheShoulder told(String train) {
        return Checks.told(train);
    }

    private static void row(OverTheShoulder x, int... numbers) {
        for (int number : numbers) {
            x.row(number);
        }
    }

    private static void fraction(String what, OverTheShoulder x, int d, long above, long below) {
        is("26: " + what + ", above", x.chance(0, d, 0), above);
        is("26: " + what + ", below", x.chance(0, d, 1), below);
    }

    private static void rowNumbers() {
        OverTheShoulder x = new OverTheShoulder();
        is("30: 0 is taken", x.row(0), 1);
        is("30: 9 is taken", x.row(9), 2);
        is("30: 10 is refused", x.row(10), -6);
        is("30: -1 is refused", x.row(-1), -4);
        for (int n = 3; n < TAKEN; n++) {
            is("30: number " + n, x.row(n - 2), n);
        }
        is("30: the twelfth is taken", x.row(3), 12);
        is("30: the thirteenth is refused", x.row(3), -6);
        is("30: twelve are there", x.count(9), 12);
    }

    private static void chanceOfDraws() {
        OverTheShoulder x = told("h0010;l0099;k1130;");
        row(x, 0);
        fraction("d of 0", x, 0, 9, 1);
        fraction("just in time, sooner by 1", x, 1, 9, 1);
        fraction("too late, sooner by 2", x, 2, 6, 1);
        fraction("d of 20", x, 20, 6, 7);
        x.away(0, 1);
        fraction("just in time, d of 0", x, 0, 9, 1);
        fraction("too late, sooner by 1", x, 1, 9, 2);
        fraction("one of 21", x, 20, 3, 7);
        is("26: d of 21", x.chance(0, 21, 0), 4000000000000000006L);
        is("26: d of -1", x.chance(0, -1, 0), 4000000000000000004L);
    }

    private static void chanceSurely() {
        OverTheShoulder x = told("h0029;l0099;k1130;");
        row(x, 0);
        fraction("with each of 21", x, 20, 9, 1);
        x.base(28);
        fraction("with 20 of 21", x, 20, 60, 7);
        x.base(27);
        fraction("with 19 of 21", x, 20, 57, 7);
    }

    private static void chanceInLeastTerms() {
        OverTheShoulder none = told("h0010;l0099;k1130;");
        for (int d = 0; d <= 20; d++) {
            fraction("nothing is READ, " + d, none, d, 0, 1);
        }
        OverTheShoulder x = told("h0020;l0012;l0012;l0012;l0012;l0012;l0012;l0012;l0012;k1130;");
        row(x, 0, 0, 0, 0, 0, 0, 0, 0);
        // One LINE less can be READ every two seconds from 5 sooner on: 7, 7, 6, 6, 5, 5 ..
        int[] above = {8, 8, 8, 8, 8, 47, 54, 15, 22, 71, 76};
        int[] below = {1, 1, 1, 1, 1, 6, 7, 2, 3, 10, 11};
        for (int d = 0; d < above.length; d++) {
            fraction("in least terms, " + d, x, d, above[d], below[d]);
        }
    }

    private static void chanceOfTheWholeRow() {
        OverTheShoulder x = told("l0051;l2041;k1130;");
        row(x, 0, 3, 3, 3, 3, 3, 3, 3, 3, 3, 3, 2);
        fraction("the first and the twelfth", x, 0, 9, 1);
        is("26: the ROW stays", x.count(9), 12);
        fraction("no ROW", told("l0051;k1130;"), 20, 0, 1);
        OverTheShoulder read = told("l0051;k1130;");
        read.read(0, 0);
        fraction("no ROW, but READ", read, 20, 5, 1);
    }

    private static void chanceLeavesOut() {
        OverTheShoulder x = told("h0010;l0011;l1029;l2041;k1130;");
        row(x, 3, 0, 0, 2);
        fraction("not SEEN, none left", x, 0, 5, 1);
        OverTheShoulder late = told("h0010;l0011;l1029;l2041;k1130;");
        row(late, 0, 2, 1, 2);
        fraction("CUT OFF by the third", late, 0, 5, 1);
        OverTheShoulder cut = told("h0010;l0011;l1029;l2041;k1130;");
        row(cut, 2, 1, 0);
        fraction("CUT OFF ahead of the third", cut, 0, 6, 1);
        fraction("CUT OFF ahead of the third or the second", cut, 1, 5, 1);
        cut.away(0, 60);
        fraction("CUT OFF ahead of all", cut, 1, 0, 1);
    }

    /** In mind it is as fast, as easily NOTICED, and as far as it is. */
    private static void asTheLookerIs() {
        OverTheShoulder x = told("h0010;l1053;l1043;l1011;k1330;k1230;k1130;");
        row(x, 1, 1);
        fraction("PACE 3", x, 0, 5, 1);
        is("26: PACE 1", x.chance(2, 0, 0), 9);
        is("31: PACE 3", x.judge(0), 1);
        row(x, 1, 1);
        is("31: PACE 1", x.judge(2), -9);
        is("32: PACE 3", x.seeds(0, 2, 93, 0), 5);
        is("32: PACE 2", x.seeds(1, 2, 93, 0), 5);
        is("32: PACE 1", x.seeds(2, 2, 93, 0), 9);
        is("19: PACE 3", told("h0010;l1053;l0093;l2093;l2093;k1330;").first(0), 0);
    }

    private static void chanceNoughtAtLeast() {
        OverTheShoulder x = told("h4910;l1091;k1130;");
        row(x, 1);
        fraction("he TURNS just behind it", x, 0, 9, 1);
        fraction("he TURNS at once or below", x, 20, 3, 7);
    }

    private static void chanceOfNumbersAboveThree() {
        OverTheShoulder x = told("l3091;k2130;");
        row(x, 3);
        fraction("a number of 3 is taken", x, 0, 9, 1);
        row(x, 0, 0, 0, 0, 0, 0, 0, 0, 0, 0);
        fraction("eleven are taken", x, 0, 9, 1);
        row(x, 4);
        is("26: a number of 4, the twelfth", x.chance(0, 0, 0), 4000000000000000003L);
        OverTheShoulder y = told("l3091;k2130;");
        row(y, 9, 3);
        is("26: a number of 9, the first", y.chance(0, 0, 1), 4000000000000000003L);
        y.judge(0);
        fraction("when the ROW is gone", y, 0, 0, 1);
    }

    private static int judged(OverTheShoulder x, int... numbers) {
        row(x, numbers);
        int answer = x.judge(0);
        is("31: the ROW has none then", x.count(9), 0);
        return answer;
    }

    private static void judgedEmpty() {
        is("31: no ROW", judged(told("l0011;k1130;")), -9);
        OverTheShoulder cut = told("h0010;k1130;");
        cut.away(0, 60);
        is("31: no ROW, CUT OFF", judged(cut), -9);
    }

    private static void judgedPlaces() {
        OverTheShoulder x = told("l1011;l1011;l1011;l1011;l1011;l1011;l1011;l1011;k1130;");
        is("31: the first: not SEEN", judged(x, 3, 1), 0);
        is("31: the second: not SEEN", judged(x, 1, 3), 1);
        is("31: none left of nine", judged(x, 1, 1, 1, 1, 1, 1, 1, 1, 1), 8);
        is("31: all of eight can be", judged(x, 1, 1, 1, 1, 1, 1, 1, 1), -9);
        is("31: the twelfth", judged(x, 1, 1, 1, 1, 1, 1, 1, 1, 9, 9, 9, 1), 11);
        is("31: all of twelve can be", judged(x, 1, 1, 1, 1, 1, 1, 1, 1, 9, 9, 9, 9), -9);
        for (int number = 4; number <= 8; number++) {
            is("31: " + number + " can't be", judged(x, number), 0);
            is("31: " + number + " behind others can't be", judged(x, 9, 1, number), 2);
        }
        is("31: 9 can be", judged(x, 9), -9);
        is("31: 3 can be", judged(told("l3011;k2130;"), 3), -9);
        is("31: 0 can be", judged(told("l0011;k0130;"), 0), -9);
        is("31: nothing is READ by it", x.looker(0, 6), 0);
    }

    private static void judgedCutOff() {
        OverTheShoulder x = told("h0010;l0019;l0011;l0011;l1011;k1130;");
        is("31: till he TURNS", judged(x, 0, 0), -9);
        is("31: CUT OFF by it", judged(x, 0, 0, 0), 2);
        is("31: CUT OFF by the last", judged(x, 0, 1, 0), 2);
        is("31: CUT OFF by it, not ahead of the next", judged(x, 0, 1, 0, 0), 2);
        x.away(0, 11);
        is("31: CUT OFF ahead of it", judged(x, 0), 0);
        is("31: CUT OFF ahead of looking AWAY", judged(x, 9), 0);
    }

    private static void judgedLookingAway() {
        OverTheShoulder x = told("h0010;l0019;l0011;k1130;");
        is("31: AWAY just till he TURNS", judged(x, 0, 9), -9);
        is("31: CUT OFF by looking AWAY", judged(x, 0, 9, 9), 2);
        is("31: CUT OFF by reading behind it", judged(x, 0, 9, 0), 2);
        OverTheShoulder rested = told("h3014;l0035;l0045;k119;");
        is("31: NOTICED just in time", judged(rested, 0, 0), -9);
        rested.base(13);
        is("31: NOTICED too late", judged(rested, 0, 0), 1);
        is("31: not NOTICED behind looking AWAY", judged(rested, 0, 9, 0), -9);
    }

    private static void judgedRowIsGone() {
        OverTheShoulder x = told("l0011;k1130;");
        row(x, 0, 0, 0);
        is("31: nobody", x.judge(1), -1);
        is("31: it stays", x.count(9), 3);
        is("31: whichever it answers", x.judge(0), 1);
        is("31: the ROW has none", x.count(9), 0);
        is("31: then nothing can't be", x.judge(0), -9);
        is("30: the next is the first", x.row(0), 1);
        is("31: it can be", x.judge(0), -9);
        is("31: the ROW has none, too", x.count(9), 0);
    }

    /** Seed 117 draws 0 for the first time as the twentieth. */
    private static void seedsTimes() {
        OverTheShoulder x = told("l0071;k1130;");
        is("32: 19 times", x.seeds(0, 19, 117, 0), 0);
        is("32: 20 times", x.seeds(0, 20, 117, 0), 7);
        is("32: 21 times", x.seeds(0, 21, 117, 0), -6);
        is("32: once", x.seeds(0, 1, 0, 0), 7);
        is("32: no times", x.seeds(0, 0, 0, 0), -4);
        is("32: no LINES", told("k1130;").seeds(0, 20, 0, 0), 0);
        is("32: no LINES, NOTICED", told("k1130;").seeds(0, 20, 0, 1), 0);
    }

    /** The first draws of seeds behind which z is below 0. */
    private static void seedsFirstDraw() {
        OverTheShoulder x = told("l0011;l1021;l2041;k1130;");
        int[] seeds = {14, 6, 3, 2, 7};
        int[] due = {1, 2, 4, 0, 0};
        for (int draw = 0; draw < 5; draw++) {
            is("32: without its sign's bit, " + draw, x.seeds(0, 1, seeds[draw], 0), due[draw]);
        }
        OverTheShoulder y = told("l1021;l2041;l3051;k2130;");
        is("32: a draw of 3", y.seeds(0, 1, 2, 0), 5);
        is("32: a draw of 4", y.seeds(0, 1, 7, 0), 0);
        is("32: a draw of 0, not SEEN", y.seeds(0, 1, 14, 0), 0);
    }

    /** Each z is an int, wrapping; the greatest and the least draw as -1 and 0 do, as the sign's bit is left out. */
    private static void seedsOfAnyInt() {
        OverTheShoulder x = told("h0099;l0011;l1021;l2041;l0081;l1091;l2011;k113;");
        for (int n = 1; n <= 20; n++) {
            for (int what = 0; what <= 1; what++) {
                is("32: the least int", x.seeds(0, n, Integer.MIN_VALUE, what), x.seeds(0, n, 0, what));
                is("32: the greatest int", x.seeds(0, n, Integer.MAX_VALUE, what), x.seeds(0, n, -1, what));
            }
        }
        int[] worths = {1, 1, 1, 5, 5, 6, 14, 16, 16, 16, 25};
        for (int n = 1; n <= worths.length; n++) {
            is("32: of the least int " + n, x.seeds(0, n, Integer.MIN_VALUE, 0), worths[n - 1]);
        }
    }

    /** Seed 11 draws 1, 4, 1; seed 93 draws 1, 1, 1; seed 8 draws 4, 4, 4, 3, 1. */
    private static void seedsAway() {
        OverTheShoulder x = told("h0099;l1015;l1015;l1015;k115;");
        is("32: AWAY, so it is not NOTICED", x.seeds(0, 3, 11, 1), 0);
        is("32: NOTICED without that", x.seeds(0, 2, 93, 1), 1);
        is("32: just once", x.seeds(0, 3, 93, 1), 1);
        OverTheShoulder late = told("h0010;l1061;k1130;");
        late.away(0, 6);
        is("32: three seconds AWAY, then just in time", late.seeds(0, 5, 8, 0), 6);
        late.away(0, 1);
        is("32: three seconds AWAY, then too late", late.seeds(0, 5, 8, 0), 0);
        late.away(0, 1);
        is("32: CUT OFF by looking AWAY", late.seeds(0, 20, 8, 0), 0);
    }

    private static void seedsCutOff() {
        OverTheShoulder x = told("h0010;l1012;l1022;l1042;k111;");
        x.away(0, 8);
        is("32: just in time", x.seeds(0, 1, 93, 0), 1);
        is("32: CUT OFF by the second", x.seeds(0, 2, 93, 0), 1);
        is("32: NOTICED by it, too", x.seeds(0, 2, 93, 1), 2);
        is("32: none behind it", x.seeds(0, 20, 93, 1), 2);
        x.away(0, 3);
        is("32: CUT OFF ahead of all", x.seeds(0, 20, 93, 1), 0);
        is("32: CUT OFF ahead of all, WORTH", x.seeds(0, 20, 93, 0), 0);
    }

    private static void seedsWithWhatIsRead() {
        OverTheShoulder x = told("h0099;l1012;l1022;l2042;k111;");
        x.read(0, 2);
        is("32: what is READ counts", x.seeds(0, 1, 93, 0), 5);
        is("32: how often NOTICED in all", x.seeds(0, 1, 93, 1), 2);
        is("32: none left", x.seeds(0, 4, 93, 0), 7);
    }
}
