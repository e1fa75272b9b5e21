import java.util.Arrays;
import java.util.List;

/** Each bound of what is had in mind (promises 15 to 25 and 27 to 29): none can be, all can be, of several which. */
public final class MindEdgesTest {
    private static final String ALL_SEEN = "l0091;l0091;l0091;l1091;l1091;l1091;l2091;l2091;k1130;";

    private MindEdgesTest() {
    }

    public static void main(String[] args) {
        mostOfNothing();
        mostOfAll();
        mostJustTillHeTurns();
        mostNoticedByTheLast();
        mostOfOneCutOff();
        mostWithoutLookingAway();
        planEnds();
        planShortest();
        planFirst();
        byJustThen();
        byBounds();
        restLeast();
        restNone();
        firstNone();
        firstLeast();
        holdFirst();
        bendLeast();
        earlyEveryBase();
        earlyBounds();
        earlyOfAllLookers();
        seatLeast();
        moreBounds();
        bothBounds();
        missedBounds();
        leftBounds();
        kindsBounds();
        nothingIsLeftOfAThought();
        inMindAlone();
        Checks.end("MindEdgesTest");
    }

    private static void is(String what, long got, long due) {
        Checks.equal(what, got, due);
    }

    private static OverTheShoulder told(String train) {
        return Checks.told(train);
    }

    /** The PLAN of looker 0 is just these COLUMNS. */
    private static void plan(String what, OverTheShoulder x, int... due) {
        for (int i = 0; i < due.length; i++) {
            is("16: " + what + ", " + i, x.plan(0, i), due[i]);
        }
        is("16: " + what + ", none such behind it", x.plan(0, due.length), -9);
    }

    private static void mostOfNothing() {
        is("15: no LINES", told("k1130;").most(0), 0);
        is("15: none SEEN", told("l3091;k1130;").most(0), 0);
        is("15: none in time", told("h0010;l0399;l0099;k1330;").most(0), 0);
        is("15: worth nothing", told("l0001;l1001;k1130;").most(0), 0);
    }

    private static void mostOfAll() {
        is("15: all eight", told(ALL_SEEN).most(0), 72);
        OverTheShoulder x = told("h1999;l1491;l1491;l1491;l1491;l1491;l1491;l1491;l1491;k1130;");
        is("15: the greatest there is", x.most(0), 112);
        plan("eight of one COLUMN", x, 1, 1, 1, 1, 1, 1, 1, 1);
        x.base(77);
        is("15: he TURNS just behind all", x.most(0), 112);
        x.base(76);
        is("15: one less", x.most(0), 98);
        x.base(99);
        for (int line = 0; line < 8; line++) {
            x.read(0, 1);
        }
        is("15: all is READ", x.most(0), 112);
        plan("all is READ", x);
    }

    private static void mostJustTillHeTurns() {
        is("15: till he TURNS", told("h0010;l0059;l0041;k1130;").most(0), 9);
        is("15: a second above", told("h0010;l0059;l0042;k1130;").most(0), 5);
        is("15: SHARP, NOTICED by the last, just then", told("h3014;l0055;l0045;k119;").most(0), 9);
        is("15: SHARP, NOTICED by the last, a second above", told("h3013;l0055;l0045;k119;").most(0), 5);
        is("15: SHARP, ON as NERVE", told("h3010;l0055;l0045;k1110;").most(0), 9);
        is("15: KINDLY, NOTICED by the last, just then", told("h2010;l0059;l0046;k1111;").most(0), 9);
        is("15: KINDLY, NOTICED by the last, a second above", told("h2010;l0059;l0047;k1111;").most(0), 5);
        is("15: KINDLY, NOTICED eight times",
                told("h2010;l1016;l1016;l1016;l1016;l1016;l1016;l1016;l1016;k111;").most(0), 8);
        is("15: SHARP, ON is 0 behind each time",
                told("h3020;l1013;l1013;l1013;l1013;l1013;l1013;k115;").most(0), 4);
    }

    /** ON is above NERVE by the eighth LINE alone. */
    private static void mostNoticedByTheLast() {
        OverTheShoulder x = told("h3012;l1011;l1011;l1011;l1011;l1011;l1011;l1011;l1011;k117;");
        is("15: SHARP, NOTICED by the eighth, just then", x.most(0), 8);
        is("16: SHARP, the eighth", x.plan(0, 7), 1);
        x.base(11);
        is("15: SHARP, NOTICED by the eighth, a second above", x.most(0), 7);
        is("16: SHARP, no eighth", x.plan(0, 7), -9);
    }

    private static void mostOfOneCutOff() {
        OverTheShoulder x = told("h0010;l0051;l0041;k1130;");
        x.read(0, 0);
        is("15: READ and to be READ", x.most(0), 9);
        x.away(0, 9);
        is("15: also without any more", x.most(0), 5);
        is("13: just not CUT OFF", x.looker(0, 7), 0);
        x.away(0, 1);
        x.base(99);
        is("15: CUT OFF", x.most(0), 5);
        plan("CUT OFF", x);
        is("17: CUT OFF", x.by(0, 999), 5);
        is("18: CUT OFF, how long", x.rest(0, 0), 0);
        is("18: CUT OFF, MOST then", x.rest(0, 1), 5);
        is("19: CUT OFF", x.first(0), -9);
        is("23: CUT OFF", x.seat(0), 0);
        is("22: CUT OFF", x.early(5), 99);
        is("22: CUT OFF, with more", x.early(4), -9);
    }

    private static void mostWithoutLookingAway() {
        OverTheShoulder x = told("h3012;l0035;l0045;k115;");
        x.read(0, 0);
        is("15: without looking AWAY", x.most(0), 3);
        is("18: with it", x.rest(0, 1), 7);
        is("17: without looking AWAY, too", x.by(0, 999), 3);
    }

    private static void planEnds() {
        OverTheShoulder x = told(ALL_SEEN);
        plan("all eight", x, 0, 0, 0, 1, 1, 1, 2, 2);
        is("16: the greatest i", x.plan(0, Integer.MAX_VALUE), -9);
        plan("no LINES", told("k1130;"));
        plan("none SEEN", told("l3091;k1130;"));
        plan("worth nothing", told("l0001;l1001;k1130;"));
        is("16: of several LOOKERS the last", told("l3011;k0130;k0130;k0130;k2130;").plan(3, 0), 3);
    }

    private static void planShortest() {
        plan("what is worth nothing ahead", told("l0001;l0051;l0001;k1130;"), 0, 0);
        plan("what is worth nothing beside", told("l0001;l1051;l2001;k1130;"), 1);
        plan("two LINES beside one worth nothing", told("l0001;l1051;l1041;k1130;"), 1, 1);
        plan("two LINES beside two worth nothing", told("l0001;l0001;l1051;l1041;k1130;"), 1, 1);
        plan("two COLUMNS beside one worth nothing", told("l0001;l1051;l2041;k1130;"), 1, 2);
        plan("one LINE for two", told("h0010;l0025;l0035;l1059;k1130;"), 1);
        plan("two LINES for three", told("h0010;l0023;l0023;l0013;l1025;l1034;k1130;"), 1, 1);
        plan("three, as they are worth more", told("h0010;l0023;l0023;l0023;l1025;l1034;k1130;"), 0, 0, 0);
    }

    private static void planFirst() {
        plan("of two LINES", told("h0010;l2059;l1059;k1130;"), 1);
        plan("of two orders", told("l1051;l0051;k1130;"), 0, 1);
        plan("of rows that part behind the first", told("h0010;l0051;l2059;l1059;k1130;"), 0, 1);
        plan("of many orders", told("l2011;l1011;l0011;l2011;l1011;l0011;k1130;"), 0, 0, 1, 1, 2, 2);
        plan("the first of all", told("h3026;l0051;l1058;l2059;k118;"), 0, 1, 2);
        plan("the first by which it is NOTICED once alone", told("h3022;l0051;l1058;l2059;k118;"), 0, 2, 1);
    }

    private static void byJustThen() {
        OverTheShoulder x = told("l0053;l0024;k1130;");
        int[] due = {0, 0, 0, 5, 5, 5, 5, 7, 7};
        for (int second = 0; second < due.length; second++) {
            is("17: by " + second, x.by(0, second), due[second]);
        }
        OverTheShoulder y = told("l0059;l1032;k1130;");
        int[] other = {0, 0, 3, 3, 3, 3, 3, 3, 3, 5, 5, 8};
        for (int second = 0; second < other.length; second++) {
            is("17: another COLUMN by " + second, y.by(0, second), other[second]);
        }
        is("17: MOST is as it was", y.most(0), 8);
    }

    private static void byBounds() {
        OverTheShoulder x = told("h0010;l0059;l0029;k1130;");
        is("17: by 0", x.by(0, 0), 0);
        is("17: by 999 not behind his turn", x.by(0, 999), 5);
        is("17: by 1000", x.by(0, 1000), -6);
        is("17: by -1", x.by(0, -1), -4);
        x.read(0, 0);
        is("17: what is READ stays", x.by(0, 0), 5);
        is("17: and just then", x.by(0, 9), 5);
    }

    private static void restLeast() {
        OverTheShoulder x = told("h3011;l0035;l0045;k115;");
        x.read(0, 0);
        is("18: just in time", x.rest(0, 0), 1);
        x.base(12);
        is("18: of one and two seconds the least", x.rest(0, 0), 1);
        is("18: MOST then", x.rest(0, 1), 7);
        x.base(10);
        is("18: too late by a second", x.rest(0, 0), 0);
        is("18: MOST without", x.rest(0, 1), 3);
        x.base(14);
        is("18: as good without", x.rest(0, 0), 0);
        is("18: MOST without any", x.rest(0, 1), 7);
        OverTheShoulder kindly = told("h2010;l0035;l0046;k115;");
        kindly.read(0, 0);
        is("18: KINDLY, just as well without", kindly.rest(0, 0), 0);
        is("18: KINDLY, to be NOTICED", kindly.rest(0, 1), 7);
    }

    private static void restNone() {
        OverTheShoulder x = told("k1130;");
        is("18: no LINES", x.rest(0, 0), 0);
        is("18: no LINES, MOST then", x.rest(0, 1), 0);
        OverTheShoulder late = told("h0010;l0051;k1130;");
        late.away(0, 10);
        is("18: CUT OFF by looking AWAY", late.rest(0, 0), 0);
        is("18: nothing then", late.rest(0, 1), 0);
    }

    private static void firstNone() {
        is("19: no LINES", told("k1130;").first(0), -9);
        is("19: none SEEN", told("l3091;k1130;").first(0), -9);
        OverTheShoulder x = told("l0051;k1130;");
        x.read(0, 0);
        is("19: none left", x.first(0), -9);
        OverTheShoulder last = told("l3051;k2130;");
        is("19: COLUMN 3 alone", last.first(0), 3);
        last.away(0, 60);
        is("19: CUT OFF", last.first(0), -9);
    }

    private static void firstLeast() {
        is("19: of three the least", told("l2051;l1051;l0051;k1130;").first(0), 0);
        is("19: of two the least", told("h0010;l0019;l2059;l1059;k1130;").first(0), 1);
        is("19: worth nothing, but it can be", told("l2001;k1130;").first(0), 2);
        OverTheShoulder late = told("h0010;l1092;l2092;k1130;");
        late.away(0, 9);
        is("19: each can be, but CUTS OFF", late.first(0), 1);
        OverTheShoulder one = told("h0010;l0092;l2001;k1130;");
        one.away(0, 9);
        is("19: with nothing and CUT OFF as much is had", one.first(0), 0);
        is("19: what is behind it counts", told("h0010;l0019;l1015;l2001;l2098;k1130;").first(0), 2);
    }

    private static void holdFirst() {
        is("20: nobody, of three the first", new OverTheShoulder().hold(), 0);
        is("20: no LINES", told("k1130;").hold(), 0);
        is("20: all alike", told("l1091;k1130;").hold(), 0);
        is("20: with -1 alone", told("l0091;k1130;").hold(), 0);
        is("20: with 0 and 1 alike", told("l3091;k1130;").hold(), 1);
        is("20: with 0 alone", told("l3091;l0021;k1130;k2130;k0130;").hold(), 2);
        is("20: with 1 alone", told("l2091;k1130;").hold(), 2);
        is("20: of the one", told("l0011;l1051;l2091;k0130;").hold(), 2);
        is("20: of the other", told("l0011;l1051;l2091;k2130;").hold(), 0);
        is("20: of both together", told("l0011;l1051;l2091;k0130;k2130;").hold(), 2);
        is("20: of both together, other LINES", told("l0051;l1011;k0130;k2130;").hold(), 0);
        is("20: KIND as it is", told("h4030;l2091;k1130;").hold(), 1);
        is("20: FIGURE as it is", told("h5330;l2091;l3011;k1130;").hold(), 1);
        is("20: BASE as it is", told("h0010;l0011;l1021;l2099;l2099;l3099;k1230;").hold(), 0);
        OverTheShoulder x = told("l3091;k1130;t+;");
        is("20: from how he holds it", x.hold(), 1);
        is("20: TILT stays", x.holder(3), 2);
    }

    private static void bendLeast() {
        is("21: nobody, of six the least", told("h5120;").bend(), 0);
        is("21: no LINES", told("h5120;k1130;").bend(), 0);
        is("21: SHARP alone", told("h1012;l1096;l1096;k115;").bend(), 3);
        is("21: SHARP and HIDING alike", told("h1012;l1096;l1096;k115;").bend(), 3);
        is("21: HIDING alone", told("h1015;l0091;k1130;").bend(), 4);
        is("21: HIDING and FOLDING alike", told("h0120;l0091;k1130;").bend(), 4);
        is("21: FOLDING alone", told("h0220;l1091;k1130;").bend(), 5);
        is("21: FIGURE as it is", told("h0020;l1091;k1130;").bend(), 0);
        OverTheShoulder x = told("h5320;t+;l1091;k2130;");
        is("21: TILT as it is", x.bend(), 5);
        is("21: KIND stays", x.holder(0), 5);
        x.tilt(-1);
        is("21: TILT as it is then", x.bend(), 0);
    }

    /** A LINE is READ just with a BASE of so many seconds: the one before that is the greatest by which it is not. */
    private static void earlyEveryBase() {
        for (int needed = 10; needed <= 99; needed++) {
            OverTheShoulder x = told("h0099;l0059;k1130;");
            for (int left = needed - 9; left > 0; left -= Math.min(left, 60)) {
                x.away(0, Math.min(left, 60));
            }
            is("22: needed are " + needed, x.early(0), needed == 10 ? -9 : needed - 1);
            is("22: as much as told is not above, " + needed, x.early(5), 99);
        }
    }

    private static void earlyBounds() {
        OverTheShoulder none = new OverTheShoulder();
        is("22: nobody, told 0", none.early(0), 99);
        is("22: nobody, told 999", none.early(999), 99);
        is("22: told 1000", none.early(1000), -6);
        is("22: told -1", none.early(-1), -4);
        OverTheShoulder x = told("h0099;l0059;l0042;k1130;");
        is("22: the least BASE", x.early(5), 10);
        is("22: one WORTH less than all", x.early(8), 10);
        is("22: all", x.early(9), 99);
        is("22: none", x.early(4), -9);
        is("22: BASE stays", x.holder(2), 99);
        OverTheShoulder late = told("h0099;l0059;k1130;");
        late.away(0, 60);
        late.away(0, 39);
        is("22: it needs more than 99", late.early(0), 99);
        OverTheShoulder all = told("h1999;l1491;l1491;l1491;l1491;l1491;l1491;l1491;l1491;k1130;");
        is("22: with MOST 112, told 111", all.early(111), 76);
        is("22: with MOST 112, told 112", all.early(112), 99);
    }

    private static void earlyOfAllLookers() {
        OverTheShoulder x = told("l0059;k1430;k1330;k1230;k1130;");
        is("22: the fastest, which is the last", x.early(0), -9);
        is("22: none of two", told("l0059;k1430;k1330;").early(0), 26);
        is("22: of one", told("l0059;k1430;").early(0), 35);
        x.away(3, 60);
        is("22: but those CUT OFF", x.early(0), 17);
    }

    private static void seatLeast() {
        is("23: no LINES", told("k2130;").seat(0), 0);
        is("23: all alike", told("l1091;k2130;").seat(0), 0);
        is("23: 0 and 1 alike", told("l0091;k2130;").seat(0), 0);
        is("23: 1 and 2 alike", told("l2091;k0130;").seat(0), 1);
        is("23: 1 alone", told("l0021;l2091;k0130;").seat(0), 1);
        is("23: 2 alone", told("l3091;k0130;").seat(0), 2);
        is("23: of the last LOOKER", told("l3091;k0130;k0130;k0130;k0130;").seat(3), 2);
        is("23: not SEEN from any", told("l3091;k2130;t+;").seat(0), 0);
        is("23: just the last SEAT", told("l2091;k0130;t+;").seat(0), 2);
        is("23: PACE as it is", told("h0010;l0051;l3093;k2430;").seat(0), 0);
        is("23: NERVE as it is, NOTICED", told("h3010;l0055;l3034;l3034;k017;").seat(0), 0);
        is("23: NERVE as it is, just not NOTICED", told("h3010;l0055;l3034;l3034;k018;").seat(0), 2);
        OverTheShoulder x = told("h0010;l3091;l3091;l0021;k0130;");
        x.seat(0);
        is("23: SEAT stays", x.looker(0, 0), 0);
        x.away(0, 9);
        is("23: SECOND as it is", x.seat(0), 2);
        x.read(0, 0);
        is("23: what is READ counts on each", x.seat(0), 0);
    }

    private static void moreBounds() {
        OverTheShoulder x = told("h1999;l1491;l1491;l1491;l1491;l1491;l1491;l1491;l1491;k1130;k1130;");
        is("24: as much", x.more(0, 1), 0);
        x.away(1, 60);
        x.away(1, 60);
        is("24: the greatest", x.more(0, 1), 112);
        is("24: the least, below 0", x.more(1, 0), -112);
        OverTheShoulder two = told("l0011;k0130;k1130;");
        is("24: the first two", two.more(0, 1), 0);
        is("24: one twice", two.more(1, 1), 1000000001);
        is("24: the other is nobody", two.more(1, 2), 1000000001);
        is("24: the one is nobody", two.more(2, 1), 1000000001);
        is("24: both are nobody", two.more(2, 3), 1000000001);
        is("24: counted once each", two.count(11), 4);
    }

    private static void bothBounds() {
        is("25: no LINES", told("k1130;k1130;").both(0, 1), 0);
        OverTheShoulder same = told("l0091;k1130;k1130;");
        is("25: the same LINE counts once", same.both(0, 1), 9);
        same.read(0, 0);
        is("25: READ and to be READ", same.both(0, 1), 9);
        same.read(1, 0);
        is("25: READ by both", same.both(0, 1), 9);
        is("25: all LINES", told("l0091;l1091;l2091;l3091;k0130;k2130;").both(0, 1), 36);
        is("25: what is worth nothing is in no PLAN", told("l0001;l1001;k1130;k1130;").both(0, 1), 0);
        OverTheShoulder two = told("l0011;k0130;k1130;");
        is("25: one twice", two.both(0, 0), -1);
        is("25: the other is nobody", two.both(1, 2), -1);
    }

    private static void missedBounds() {
        is("27: no LINES", told("k1130;").missed(0), 0);
        is("27: none SEEN", told("l3091;k1130;").missed(0), 0);
        OverTheShoulder x = told("l1011;l1011;l1011;l1011;l1011;l1011;l1011;l1011;k1130;");
        int bits = 255;
        for (int line = 0; line < 8; line++) {
            is("27: without the first " + line, x.missed(0), bits);
            x.read(0, 1);
            bits -= 1 << line;
        }
        is("27: all is READ", x.missed(0), 0);
        is("27: the last of eight", told("l3011;l3011;l3011;l3011;l3011;l3011;l3011;l1011;k1130;").missed(0), 128);
    }

    private static void leftBounds() {
        is("28: no LINES", told("k1130;").left(0), 0);
        OverTheShoulder x = told("l1491;l1491;l1491;l1491;l1491;l1491;l1491;l1491;k1130;h1999;");
        for (int line = 0; line < 8; line++) {
            is("28: without the first " + line, x.left(0), 112 - 14 * line);
            x.read(0, 1);
        }
        is("28: all is READ", x.left(0), 0);
        is("28: those not SEEN, too", told("l3091;k0130;").left(0), 9);
    }

    private static void kindsBounds() {
        OverTheShoulder x = told("l0001;");
        is("29: all KINDS but one with 0", x.kinds(0, 0), 47);
        is("29: that one", x.kinds(0, 5), 16);
        is("29: none", x.kinds(0, 4), 0);
        is("29: told 999", x.kinds(0, 999), 0);
        is("29: told 1000", x.kinds(0, 1000), -6);
        is("29: told -1", x.kinds(0, -1), -4);
        OverTheShoulder column = told("l3491;l3491;l3491;l3491;l3491;l3491;l3491;l3091;");
        is("29: the greatest, FORBIDDEN", column.kinds(7, 112), 16);
        is("29: just below it, none", column.kinds(7, 111), 0);
        is("29: END with seven ahead", told("l3091;l3091;l3091;l3091;l3091;l3091;l3091;l3091;").kinds(7, 79), 32);
        is("29: just ahead of a GUESSED one", told("l0041;l0341;").kinds(0, 4), 8);
        is("29: ahead of a GUESSED one, but not just", told("l0041;l0041;l0341;").kinds(0, 10), 10);
        is("29: KIND stays", column.line(7, 1), 0);
    }

    /** What was thought of ahead of a call changes nothing of what it answers. */
    private static void nothingIsLeftOfAThought() {
        OverTheShoulder x = told("h0020;l0059;l0059;l3011;k1130;k1130;k2430;");
        x.row(0);
        x.row(0);
        String[] thoughts = {"chance 0 20 0", "hold", "bend", "early 0", "seat 0", "seat 2", "first 0", "rest 2 1",
            "judge 2", "seeds 2 20 5 1", "by 0 0", "kinds 0 9", "most 2", "plan 2 0", "both 0 1", "more 0 2"};
        for (String thought : thoughts) {
            Calls.ask(x, thought);
            is("15: MOST behind " + thought, x.most(0), 10);
            is("16: PLAN behind " + thought, x.plan(0, 1), 0);
            is("17: BY behind " + thought, x.by(0, 9), 5);
            is("18: AWAY behind " + thought, x.rest(0, 1), 10);
            is("19: FIRST behind " + thought, x.first(0), 0);
            is("20: HOLD behind " + thought, x.hold(), 0);
            is("21: BEND behind " + thought, x.bend(), 4);
            is("22: EARLY behind " + thought, x.early(5), 17);
            is("23: SEAT behind " + thought, x.seat(0), 0);
            is("24: MORE behind " + thought, x.more(0, 2), 9);
            is("25: BOTH behind " + thought, x.both(0, 2), 11);
        }
    }

    /** Calls that are answered in mind leave everything as it is, and count nothing. */
    private static void inMindAlone() {
        List<String> calls = List.of("line 7 5", "holder 3", "looker 3 9", "takes 7 3", "shows 2", "most 0", "plan 0 0",
                "plan 2 99", "by 0 999", "rest 0 0", "rest 3 1", "first 0", "hold", "bend", "early 0", "early 999",
                "seat 0", "more 0 1", "both 0 3", "chance 0 20 0", "chance 3 20 1", "missed 0", "left 0", "kinds 0 9",
                "kinds 7 999", "seeds 0 20 7 0", "seeds 3 20 2147483647 1", "count 16", "count -1");
        for (List<String> state : List.of(States.CROWDED, States.FULL)) {
            for (String call : calls) {
                OverTheShoulder x = States.made(state);
                OverTheShoulder twin = States.made(state);
                Calls.ask(x, call);
                Checks.holds(call + " counts nothing", Arrays.equals(States.refusals(x), States.refusals(twin)));
                Checks.text(call + " is in mind alone", States.whole(x), States.whole(twin));
            }
        }
    }
}
