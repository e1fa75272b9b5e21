/** Each bound of reading on, looking away and a new page: just not NOTICED, just not CUT OFF, none left, all READ. */
public final class ReadEdgesTest {
    private static final int SECOND = 3;
    private static final int ON = 4;
    private static final int NOTICED = 5;
    private static final int READ = 6;
    private static final int CUT_OFF = 7;
    private static final int TURNS = 8;
    private static final int WORTH = 9;

    private ReadEdgesTest() {
    }

    public static void main(String[] args) {
        firstLineNotRead();
        seenAlone();
        noneLeft();
        onAsMuchAsNerve();
        leastNerve();
        greatestNerve();
        noticedOnceByOneLine();
        justWhenHeTurns();
        turnsAsOftenNoticedAsThen();
        cutOffAndNoticed();
        cutOffOnThisPage();
        awayJustTillHeTurns();
        awayAtTheMost();
        awayTakesOn();
        awayAsOftenNoticed();
        pageWithNothing();
        pageWithAll();
        pageLeavesTheRest();
        Checks.end("ReadEdgesTest");
    }

    private static void is(String what, long got, long due) {
        Checks.equal(what, got, due);
    }

    private static OverTheShoulder told(String train) {
        return Checks.told(train);
    }

    private static void looker(String what, OverTheShoulder x, int second, int on, int noticed, int read, int cutOff) {
        is(what + ": SECOND", x.looker(0, SECOND), second);
        is(what + ": ON", x.looker(0, ON), on);
        is(what + ": NOTICED", x.looker(0, NOTICED), noticed);
        is(what + ": READ", x.looker(0, READ), read);
        is(what + ": CUT OFF", x.looker(0, CUT_OFF), cutOff);
    }

    private static void firstLineNotRead() {
        OverTheShoulder x = told("l1011;l0021;l1031;l0041;k1130;");
        is("12: the first of COLUMN 1", x.read(0, 1), 0);
        is("12: then the next of it", x.read(0, 1), 2);
        is("12: the first of COLUMN 0", x.read(0, 0), 1);
        is("12: then the last", x.read(0, 0), 3);
        is("12: all READ", x.looker(0, READ), 15);
        is("12: WORTH of all READ", x.looker(0, WORTH), 10);
    }

    private static void seenAlone() {
        int[] seen = {3, 7, 14};
        for (int seat = 0; seat <= 2; seat++) {
            OverTheShoulder x = told("l0011;l1011;l2011;l3011;k1130;");
            x.sit(0, seat);
            for (int column = 0; column <= 3; column++) {
                int due = (seen[seat] >> column & 1) != 0 ? column : -3;
                is("12: COLUMN " + column + " from SEAT " + seat, x.read(0, column), due);
            }
            is("12: READ from SEAT " + seat, x.looker(0, READ), seen[seat]);
        }
    }

    private static void noneLeft() {
        OverTheShoulder x = told("k1130;");
        is("12: no LINES at all", x.read(0, 0), -3);
        Checks.tell(x, "l1011;l1011;l1011;l1011;l1011;l1011;l1011;l1011;");
        is("12: none in its COLUMN", x.read(0, 0), -3);
        for (int line = 0; line < 8; line++) {
            is("12: LINE " + line, x.read(0, 1), line);
        }
        is("12: none left of eight", x.read(0, 1), -3);
        looker("12: eight READ", x, 8, 8, 0, 255, 0);
        OverTheShoulder y = told("l1011;k1130;");
        y.read(0, 1);
        is("12: none left", y.read(0, 1), -3);
        Checks.tell(y, "l1011;");
        is("12: a LINE more", y.read(0, 1), 1);
    }

    private static void onAsMuchAsNerve() {
        OverTheShoulder x = told("h0099;l0011;l0011;l0011;l0011;k112;");
        x.read(0, 0);
        looker("12: ON below NERVE", x, 1, 1, 0, 1, 0);
        x.read(0, 0);
        looker("12: ON as NERVE", x, 2, 2, 0, 3, 0);
        x.read(0, 0);
        looker("12: ON above NERVE", x, 3, 0, 1, 7, 0);
        x.read(0, 0);
        looker("12: ON once more", x, 4, 1, 1, 15, 0);
    }

    private static void leastNerve() {
        OverTheShoulder x = told("h0099;l0011;l0011;k111;");
        x.read(0, 0);
        looker("12: NERVE 1, ON 1", x, 1, 1, 0, 1, 0);
        x.read(0, 0);
        looker("12: NERVE 1, ON 2", x, 2, 0, 1, 3, 0);
    }

    private static void greatestNerve() {
        OverTheShoulder x = told("h0099;l0019;l0019;l0019;l0013;l0011;k1130;");
        for (int line = 0; line < 4; line++) {
            x.read(0, 0);
        }
        looker("12: NERVE 30, ON 30", x, 30, 30, 0, 15, 0);
        x.read(0, 0);
        looker("12: NERVE 30, ON 31", x, 31, 0, 1, 31, 0);
    }

    private static void noticedOnceByOneLine() {
        OverTheShoulder x = told("h0099;l0499;l0011;k141;");
        x.read(0, 0);
        looker("12: 48 seconds with NERVE 1", x, 48, 0, 1, 1, 0);
        x.read(0, 0);
        looker("12: NOTICED again", x, 52, 0, 2, 3, 0);
    }

    private static void justWhenHeTurns() {
        OverTheShoulder x = told("h0010;l0019;l0011;l0011;k1130;");
        is("12: ahead of his turn", x.read(0, 0), 0);
        is("12: no more than when he TURNS", x.read(0, 0), 1);
        looker("12: just then", x, 10, 10, 0, 3, 0);
        is("12: above when he TURNS", x.read(0, 0), -9);
        looker("12: one second above", x, 11, 11, 0, 3, 1);
        is("35: one CUT OFF", x.count(3), 1);
        OverTheShoulder atOnce = told("h4910;l1012;k1130;");
        is("12: CUT OFF by the first", atOnce.read(0, 1), -9);
        looker("12: nothing READ", atOnce, 2, 2, 0, 0, 1);
        OverTheShoulder justOne = told("h4910;l1011;k1130;");
        is("12: he TURNS behind one second", justOne.read(0, 1), 0);
    }

    private static void turnsAsOftenNoticedAsThen() {
        OverTheShoulder sharp = told("h3014;l0015;l0015;k119;");
        sharp.read(0, 0);
        is("12: SHARP, just when he TURNS for one NOTICED then", sharp.read(0, 0), 1);
        looker("12: SHARP", sharp, 10, 0, 1, 3, 0);
        is("12: SHARP TURNS", sharp.looker(0, TURNS), 10);
        OverTheShoulder sharper = told("h3013;l0015;l0015;k119;");
        sharper.read(0, 0);
        is("12: SHARP, one second above that", sharper.read(0, 0), -9);
        is("12: SHARP TURNS sooner", sharper.looker(0, TURNS), 9);
        OverTheShoulder kindly = told("h2010;l0019;l0016;k1111;");
        kindly.read(0, 0);
        is("12: KINDLY, just when he TURNS for one NOTICED then", kindly.read(0, 0), 1);
        looker("12: KINDLY", kindly, 15, 0, 1, 3, 0);
        OverTheShoulder kind = told("h2010;l0019;l0017;k1111;");
        kind.read(0, 0);
        is("12: KINDLY, one second above that", kind.read(0, 0), -9);
        looker("12: KINDLY, CUT OFF", kind, 16, 0, 1, 1, 1);
    }

    private static void cutOffAndNoticed() {
        OverTheShoulder x = told("h0010;l0019;l0019;k1117;");
        x.read(0, 0);
        is("12: CUT OFF", x.read(0, 0), -9);
        looker("12: NOTICED as it is CUT OFF", x, 18, 0, 1, 1, 1);
    }

    private static void cutOffOnThisPage() {
        OverTheShoulder x = told("h0010;l0019;l0019;k1130;k1130;");
        x.read(0, 0);
        x.read(0, 0);
        x.base(99);
        is("12: it reads no more", x.read(0, 0), -3);
        is("13: it looks away no more", x.away(0, 1), -3);
        x.sit(0, 0);
        is("12: nor on another SEAT", x.read(0, 0), -3);
        is("12: the other one reads", x.read(1, 0), 0);
        is("35: one CUT OFF of two", x.count(3), 1);
        looker("12: CUT OFF as it was", x, 18, 18, 0, 1, 1);
        x.page();
        is("35: nobody CUT OFF on the new page", x.count(3), 0);
        is("12: it reads on the new page", x.read(0, 0), 0);
        is("12: what it was CUT OFF by, too", x.read(0, 0), 1);
    }

    private static void awayJustTillHeTurns() {
        OverTheShoulder x = told("h0010;l0011;k1130;");
        is("13: just when he TURNS", x.away(0, 10), 10);
        looker("13: just then", x, 10, 0, 0, 0, 0);
        is("13: above when he TURNS", x.away(0, 1), 11);
        looker("13: one second above", x, 11, 0, 0, 0, 1);
        is("13: no more", x.away(0, 1), -3);
        is("12: CUT OFF by looking away", x.read(0, 0), -3);
    }

    private static void awayAtTheMost() {
        OverTheShoulder x = told("h0060;k1130;");
        is("13: one second", x.away(0, 1), 1);
        x.page();
        is("13: 60 seconds", x.away(0, 60), 60);
        is("13: not CUT OFF by 60 of 60", x.looker(0, CUT_OFF), 0);
        x.page();
        x.base(59);
        is("13: 60 seconds of 59", x.away(0, 60), 60);
        is("13: CUT OFF by 60 of 59", x.looker(0, CUT_OFF), 1);
    }

    private static void awayTakesOn() {
        OverTheShoulder x = told("h0020;l0015;l0015;l0015;k119;");
        x.read(0, 0);
        x.away(0, 1);
        looker("13: ON is 0", x, 6, 0, 0, 1, 0);
        x.read(0, 0);
        looker("13: so it is not NOTICED", x, 11, 5, 0, 3, 0);
        x.away(0, 60);
        looker("13: ON is 0 for one CUT OFF, too", x, 71, 0, 0, 3, 1);
    }

    private static void awayAsOftenNoticed() {
        String[] holders = {"h3014;", "h2010;", "h0010;"};
        int[] turns = {10, 15, 10};
        for (int i = 0; i < holders.length; i++) {
            OverTheShoulder x = told(holders[i] + "l0015;k114;");
            x.read(0, 0);
            is("13: TURNS for one NOTICED, " + holders[i], x.looker(0, TURNS), turns[i]);
            x.away(0, turns[i] - 5);
            looker("13: just till then, " + holders[i], x, turns[i], 0, 1, 1, 0);
            x.away(0, 1);
            looker("13: above that, " + holders[i], x, turns[i] + 1, 0, 1, 1, 1);
        }
    }

    private static void pageWithNothing() {
        is("14: nobody looks", new OverTheShoulder().page(), 0);
        is("14: LINES, but nobody looks", told("l0011;").page(), 0);
        is("14: nothing is READ", told("l0011;k1130;k1130;").page(), 0);
    }

    private static void pageWithAll() {
        OverTheShoulder x = told("h0099;l1011;l1011;l1011;l1011;l1011;l1011;l1011;l1011;k1130;k1130;k1130;k1130;");
        for (int i = 0; i < 32; i++) {
            x.read(i / 8, 1);
        }
        is("14: one LINE READ by each is many", x.page(), 32);
        is("14: none is READ then", x.page(), 0);
        is("14: they can be READ again", x.read(3, 1), 0);
        is("14: one is READ", x.page(), 1);
    }

    private static void pageLeavesTheRest() {
        OverTheShoulder x = told("h3412;t-;l1013;l2043;l3014;k1216;k212;");
        x.read(0, 1);
        x.read(1, 2);
        looker("14: ahead of it", x, 6, 6, 0, 1, 0);
        is("14: NOTICED ahead of it", x.looker(1, NOTICED), 1);
        x.away(1, 60);
        x.row(2);
        x.feed('t');
        is("14: READ together", x.page(), 2);
        for (int looker = 0; looker < 2; looker++) {
            for (int what : new int[] {SECOND, ON, NOTICED, READ, CUT_OFF, WORTH}) {
                is("14: 0 behind it, " + what + " of " + looker, x.looker(looker, what), 0);
            }
        }
        is("14: SEAT stays", x.looker(1, 0), 2);
        is("14: PACE stays", x.looker(0, 1), 2);
        is("14: NERVE stays", x.looker(0, 2), 16);
        is("14: LINES stay", x.count(0), 3);
        is("14: WORTH of all LINES stays", x.count(2), 6);
        is("14: KIND stays", x.holder(0), 3);
        is("14: BASE stays", x.holder(2), 12);
        is("14: TILT stays", x.holder(3), 0);
        is("14: letters stay", x.count(8), 1);
        is("14: the ROW stays", x.count(9), 1);
    }
}
