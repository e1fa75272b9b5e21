/** For each promise what the document says of it, worked out by hand. */
public final class PromisesTest {
    private static final String EIGHT_LINES = "l0053;l0194;l0352;l1232;l1423;l2561;l2075;l3482;";
    private static final int REFUSED_MORE = 1000000001;
    private static final long REFUSED_CHANCE = 4000000000000000000L;

    private PromisesTest() {
    }

    public static void main(String[] args) {
        newObject();
        feed();
        trainForm();
        trainSense();
        trainAll();
        line();
        worthOfKinds();
        holder();
        turns();
        looker();
        takes();
        shows();
        tilt();
        base();
        sit();
        read();
        readNoticed();
        away();
        page();
        most();
        plan();
        by();
        rest();
        first();
        hold();
        bend();
        early();
        seat();
        more();
        both();
        chance();
        chanceRefusals();
        missedAndLeft();
        kinds();
        row();
        judge();
        seeds();
        image();
        count();
        thoughtsChangeNothing();
        Checks.end("PromisesTest");
    }

    private static void is(String what, long got, long due) {
        Checks.equal(what, got, due);
    }

    private static OverTheShoulder told(String train) {
        return Checks.told(train);
    }

    private static void newObject() {
        OverTheShoulder x = new OverTheShoulder();
        for (int what = 0; what <= 9; what++) {
            is("1: count " + what + " at first", x.count(what), 0);
        }
        for (int what = 11; what <= 16; what++) {
            is("1: refusals " + what + " at first", x.count(what), 0);
        }
        is("1: KIND at first", x.holder(0), 0);
        is("1: FIGURE at first", x.holder(1), 0);
        is("1: BASE at first", x.holder(2), 30);
        is("1: TILT at first", x.holder(3), 1);
        is("1: nobody looks", x.most(0), -1);
        is("1: no line", x.line(0, 0), -1);
    }

    private static void feed() {
        OverTheShoulder x = new OverTheShoulder();
        is("2: below", x.feed(-1), -4);
        is("2: far below", x.feed(Integer.MIN_VALUE), -4);
        is("2: above", x.feed(256), -6);
        is("2: far above", x.feed(Integer.MAX_VALUE), -6);
        is("2: least", x.feed(0), 1);
        is("2: greatest", x.feed(255), 2);
        for (int n = 3; n <= 96; n++) {
            is("2: letter " + n, x.feed('l'), n);
        }
        is("2: no room", x.feed('l'), -6);
        is("2: below, no room either", x.feed(-1), -4);
        is("2: how many stay", x.count(8), 96);
        is("2: -4 counted", x.count(14), 3);
        is("2: -6 counted", x.count(16), 3);
        is("2: the first can't be", x.train(), -1000);
        is("2: then there is room", x.feed('l'), 1);
    }

    private static void trainForm() {
        OverTheShoulder x = new OverTheShoulder();
        String[] broken = {"", "x", "l", "l0", "l005", "l0053", "l00533", "l005;", "l00x3;", "t", "t1;", "t+", "t+x",
            "h0020", "h002;", "h00200;", "k11", "k11;", "k111", "k11111;", "k1111x", "l0053;;", "l0053; ", "l0053;l",
            "l0053;k116;t*;", "l9999;x", "L0053;", "k116;h;"};
        int[] places = {0, 0, 1, 2, 4, 5, 5, 4, 3, 1, 1, 2, 2, 5, 4, 5, 3, 3, 4, 5, 5, 6, 6, 7, 12, 6, 0, 6};
        for (int i = 0; i < broken.length; i++) {
            is("3: form of '" + broken[i] + "'", Checks.tell(x, broken[i]), -1000 - places[i]);
            is("3: no letters behind '" + broken[i] + "'", x.count(8), 0);
        }
        is("3: no lines came", x.count(0), 0);
        is("3: no lookers came", x.count(1), 0);
        for (int what = 11; what <= 16; what++) {
            is("3: nothing is counted as " + what, x.count(what), 0);
        }
        x.feed(200);
        is("3: a letter that is none of a train's", x.train(), -1000);
    }

    private static void trainSense() {
        OverTheShoulder x = new OverTheShoulder();
        String[] senseless = {"l4011;", "l0611;", "l0010;", "h6010;", "h0009;", "h0000;", "k3111;", "k1010;", "k1510;",
            "k1100;", "k110;", "k1131;", "k1199;", "t0;t+;l4011;", "l0011;k116;h0009;t0;", "k1130;k1131;"};
        int[] places = {0, 0, 0, 0, 0, 0, 0, 0, 0, 0, 0, 0, 0, 6, 11, 6};
        for (int i = 0; i < senseless.length; i++) {
            is("3: sense of " + senseless[i], Checks.tell(x, senseless[i]), -2000 - places[i]);
        }
        is("3: with fault no lines", x.count(0), 0);
        is("3: with fault no lookers", x.count(1), 0);
        is("3: with fault the TILT stays", x.holder(3), 1);
        is("3: nothing is counted", x.count(16), 0);
        is("3: eight lines", Checks.tell(x, EIGHT_LINES), 8);
        is("3: no room for a ninth", Checks.tell(x, "t+;l0011;"), -2003);
        is("3: four lookers", Checks.tell(x, "k111;k111;k111;k111;"), 4);
        is("3: no room for a fifth", Checks.tell(x, "k111;"), -2000);
        OverTheShoulder y = told("l0011;");
        is("3: the eighth of the text finds no room", Checks.tell(y, EIGHT_LINES), -2042);
        is("3: none of them came", y.count(0), 1);
    }

    private static void trainAll() {
        OverTheShoulder x = told("l3599;h5999;t-;k2430;k115;k0105;");
        is("3: COLUMN", x.line(0, 0), 3);
        is("3: KIND", x.line(0, 1), 5);
        is("3: FIGURE", x.line(0, 2), 9);
        is("3: SECONDS", x.line(0, 3), 9);
        is("3: holder's KIND", x.holder(0), 5);
        is("3: holder's FIGURE", x.holder(1), 9);
        is("3: holder's BASE", x.holder(2), 99);
        is("3: TILT", x.holder(3), 0);
        is("3: SEAT", x.looker(0, 0), 2);
        is("3: PACE", x.looker(0, 1), 4);
        is("3: NERVE of two digits", x.looker(0, 2), 30);
        is("3: NERVE of one digit", x.looker(1, 2), 5);
        is("3: NERVE with a nought", x.looker(2, 2), 5);
        is("3: KIND stays with a TILT", Checks.tell(x, "t+;"), 1);
        is("3: holder stays", x.holder(2), 99);
        is("3: TILT is +", x.holder(3), 2);
        is("3: TILT stays with a holder", Checks.tell(x, "h1010;"), 1);
        is("3: TILT is + still", x.holder(3), 2);
        is("3: TILT 0", Checks.tell(x, "t+;t0;"), 2);
        is("3: TILT is 0", x.holder(3), 1);
    }

    private static void line() {
        OverTheShoulder x = told(EIGHT_LINES);
        int[] columns = {0, 0, 0, 1, 1, 2, 2, 3};
        int[] kinds = {0, 1, 3, 2, 4, 5, 0, 4};
        int[] figures = {5, 9, 5, 3, 2, 6, 7, 8};
        int[] seconds = {3, 4, 2, 2, 3, 1, 5, 2};
        int[] worths = {5, 4, 4, 3, 7, 6, 7, 13};
        int[] ahead = {0, 1, 2, 0, 1, 0, 1, 0};
        for (int i = 0; i < 8; i++) {
            is("4: COLUMN of " + i, x.line(i, 0), columns[i]);
            is("4: KIND of " + i, x.line(i, 1), kinds[i]);
            is("4: FIGURE of " + i, x.line(i, 2), figures[i]);
            is("4: SECONDS of " + i, x.line(i, 3), seconds[i]);
            is("4: WORTH of " + i, x.line(i, 4), worths[i]);
            is("4: ahead of " + i, x.line(i, 5), ahead[i]);
        }
        is("4: no such line", x.line(8, 0), -1);
        is("4: none below", x.line(-1, 0), -1);
        is("4: no such line first", x.line(8, 9), -1);
        is("4: other", x.line(0, 6), -2);
        is("4: other below", x.line(0, -1), -2);
        is("4: -1 counted", x.count(11), 3);
        is("4: -2 counted", x.count(12), 2);
    }

    private static void worthOfKinds() {
        OverTheShoulder x = told("l0371;l0371;l0171;l0371;l1001;l2001;l1531;l0521;");
        is("4: a guess with nothing ahead", x.line(0, 4), 3);
        is("4: a guess behind a guess", x.line(1, 4), 3);
        is("4: skimmed", x.line(2, 4), 3);
        is("4: a guess behind what is none", x.line(3, 4), 5);
        is("4: an end behind one of its own column", x.line(6, 4), 4);
        is("4: an end behind four", x.line(7, 4), 6);
        OverTheShoulder y = told("l1001;l0381;");
        is("4: a line of another column helps no guess", y.line(1, 4), 4);
    }

    private static void holder() {
        OverTheShoulder x = told("h3519;t-;");
        is("5: KIND", x.holder(0), 3);
        is("5: FIGURE", x.holder(1), 5);
        is("5: BASE", x.holder(2), 19);
        is("5: TILT", x.holder(3), 0);
        is("5: other", x.holder(4), -2);
        is("5: other below", x.holder(-1), -2);
        is("5: counted", x.count(12), 2);
    }

    private static void turns() {
        String[] holders = {"h0720;", "h1720;", "h2720;", "h3720;", "h4720;", "h5720;", "h4911;"};
        int[] unnoticed = {20, 41, 41, 20, 13, 20, 2};
        int[] once = {20, 41, 46, 16, 9, 20, 0};
        for (int i = 0; i < holders.length; i++) {
            OverTheShoulder x = told("h0099;l0011;k111;k112;l0012;");
            Checks.tell(x, holders[i]);
            is("6: turns unnoticed, " + holders[i], x.looker(0, 8), unnoticed[i]);
            Checks.tell(x, "h0099;");
            is("6: reads one second", x.read(0, 0), 0);
            is("6: reads two more", x.read(0, 0), 1);
            is("6: is noticed", x.looker(0, 5), 1);
            Checks.tell(x, holders[i]);
            is("6: turns when noticed, " + holders[i], x.looker(0, 8), once[i]);
            is("6: turns for another, " + holders[i], x.looker(1, 8), unnoticed[i]);
        }
    }

    private static void looker() {
        OverTheShoulder x = told("l0053;l0042;l1099;k124;k0310;");
        int[] atFirst = {1, 2, 4, 0, 0, 0, 0, 0, 30, 0};
        for (int what = 0; what < 10; what++) {
            is("6: at first " + what, x.looker(0, what), atFirst[what]);
        }
        x.read(0, 0);
        int[] noticedThen = {1, 2, 4, 6, 0, 1, 1, 0, 30, 5};
        for (int what = 0; what < 10; what++) {
            is("6: noticed " + what, x.looker(0, what), noticedThen[what]);
        }
        x.read(0, 0);
        int[] readThen = {1, 2, 4, 10, 4, 1, 3, 0, 30, 9};
        for (int what = 0; what < 10; what++) {
            is("6: read " + what, x.looker(0, what), readThen[what]);
        }
        x.base(20);
        x.read(0, 1);
        int[] cutThen = {1, 2, 4, 28, 0, 2, 3, 1, 20, 9};
        for (int what = 0; what < 10; what++) {
            is("6: cut off " + what, x.looker(0, what), cutThen[what]);
        }
        is("6: the other one's PACE", x.looker(1, 1), 3);
        is("6: no such looker", x.looker(2, 0), -1);
        is("6: none below", x.looker(-1, 20), -1);
        is("6: other", x.looker(0, 10), -2);
        is("6: other below", x.looker(0, -1), -2);
    }

    private static void takes() {
        OverTheShoulder x = told(EIGHT_LINES);
        Checks.tell(x, "k1116;k2330;");
        int[] slowly = {9, 6, 3, 9, 14, 3, 15, 17};
        int[] fast = {3, 2, 1, 5, 8, 1, 5, 13};
        for (int i = 0; i < 8; i++) {
            is("7: PACE 1, line " + i, x.takes(i, 0), fast[i]);
            is("7: PACE 3, line " + i, x.takes(i, 1), slowly[i]);
        }
        is("7: no such line", x.takes(8, 0), -1);
        is("7: no line below", x.takes(-1, 0), -1);
        is("7: no such looker", x.takes(0, 2), -1);
        is("7: no looker below", x.takes(0, -1), -1);
        is("7: neither counts once", x.takes(9, 9), -1);
        is("7: counted", x.count(11), 5);
        OverTheShoulder y = told("l0191;l0391;k111;");
        is("7: skimmed one at least", y.takes(0, 0), 1);
        is("7: guessed one at least", y.takes(1, 0), 1);
    }

    private static void shows() {
        int[][] plain = {{7, 14, 12}, {3, 7, 14}, {1, 3, 7}};
        int[][] hiding = {{2, 4, 8}, {1, 2, 4}, {0, 1, 2}};
        for (int tilted = -1; tilted <= 1; tilted++) {
            for (int seat = 0; seat <= 2; seat++) {
                OverTheShoulder x = new OverTheShoulder();
                x.tilt(tilted);
                int due = plain[tilted + 1][seat];
                for (int kind = 0; kind <= 3; kind++) {
                    Checks.tell(x, "h" + kind + "320;");
                    is("8: kind " + kind + " to " + seat + " with " + tilted, x.shows(seat), due);
                }
                Checks.tell(x, "h4320;");
                is("8: hiding to " + seat + " with " + tilted, x.shows(seat), hiding[tilted + 1][seat]);
                for (int figure = 0; figure <= 9; figure++) {
                    Checks.tell(x, "h5" + figure + "20;");
                    int folded = due & (15 << figure % 4);
                    is("8: folding " + figure + " to " + seat + " with " + tilted, x.shows(seat), folded);
                }
            }
        }
        OverTheShoulder x = new OverTheShoulder();
        is("8: below", x.shows(-1), -4);
        is("8: above", x.shows(3), -6);
        is("8: -4 counted", x.count(14), 1);
        is("8: -6 counted", x.count(16), 1);
    }

    private static void tilt() {
        OverTheShoulder x = new OverTheShoulder();
        is("9: to -1", x.tilt(-1), 1);
        is("9: is -1", x.holder(3), 0);
        is("9: to 1", x.tilt(1), 0);
        is("9: to 0", x.tilt(0), 2);
        is("9: below", x.tilt(-2), -4);
        is("9: above", x.tilt(2), -6);
        is("9: stays", x.holder(3), 1);
    }

    private static void base() {
        OverTheShoulder x = new OverTheShoulder();
        is("10: to 10", x.base(10), 30);
        is("10: to 99", x.base(99), 10);
        is("10: below", x.base(9), -4);
        is("10: above", x.base(100), -6);
        is("10: stays", x.holder(2), 99);
    }

    private static void sit() {
        OverTheShoulder x = told("k1116;k2212;");
        is("11: to 0", x.sit(0, 0), 1);
        is("11: to 2", x.sit(0, 2), 0);
        is("11: sits there", x.looker(0, 0), 2);
        is("11: the other one stays", x.looker(1, 0), 2);
        is("11: nobody first", x.sit(2, 3), -1);
        is("11: nobody below", x.sit(-1, 0), -1);
        is("11: below", x.sit(0, -1), -4);
        is("11: above", x.sit(0, 3), -6);
        is("11: stays", x.looker(0, 0), 2);
    }

    private static void read() {
        OverTheShoulder x = told("l0053;l1031;l0042;l3011;k1210;k0210;h0015;");
        is("12: first line", x.read(0, 0), 0);
        is("12: second of the column", x.read(0, 0), 2);
        is("12: ON is as NERVE", x.looker(0, 4), 10);
        is("12: so it was not noticed", x.looker(0, 5), 0);
        is("12: another column", x.read(0, 1), 1);
        is("12: now noticed", x.looker(0, 5), 1);
        is("12: ON is 0", x.looker(0, 4), 0);
        is("12: none left", x.read(0, 0), -3);
        is("12: empty column", x.read(0, 2), -3);
        is("12: not seen", x.read(0, 3), -3);
        is("12: no such column", x.read(0, 4), -1);
        is("12: no column below", x.read(0, -1), -1);
        is("12: no such looker", x.read(2, 0), -1);
        is("12: no looker below", x.read(-1, 0), -1);
        is("12: -1 counted", x.count(11), 4);
        is("12: -3 counted", x.count(13), 3);
        is("12: the other reads for itself", x.read(1, 0), 0);
        x.base(12);
        is("12: just till he turns", x.looker(0, 3), 12);
        x.tilt(-1);
        is("12: cut off", x.read(0, 3), -9);
        is("12: not read", x.looker(0, 6), 7);
        is("12: is cut off", x.looker(0, 7), 1);
        is("12: no refusal", x.count(13), 3);
        is("12: SECOND stands", x.looker(0, 3), 14);
        x.base(99);
        is("12: reads no more on this page", x.read(0, 3), -3);
        x.page();
        is("12: reads on the next", x.read(0, 3), 3);
    }

    private static void readNoticed() {
        OverTheShoulder sharp = told("h3013;l0012;l0019;k115;");
        is("12: sharp, first", sharp.read(0, 0), 0);
        is("12: sharp, turns sooner as it is noticed", sharp.read(0, 0), -9);
        is("12: sharp, noticed", sharp.looker(0, 5), 1);
        is("12: sharp, turns", sharp.looker(0, 8), 9);
        OverTheShoulder kindly = told("h2010;l0012;l0019;k115;");
        is("12: kindly, first", kindly.read(0, 0), 0);
        is("12: kindly, turns later as it is noticed", kindly.read(0, 0), 1);
        is("12: kindly, SECOND", kindly.looker(0, 3), 11);
    }

    private static void away() {
        OverTheShoulder x = told("l0012;k119;h0070;");
        x.read(0, 0);
        is("13: SECOND", x.away(0, 1), 3);
        is("13: ON is 0", x.looker(0, 4), 0);
        is("13: greatest", x.away(0, 60), 63);
        is("13: just till he turns", x.away(0, 7), 70);
        is("13: not cut off", x.looker(0, 7), 0);
        is("13: nobody first", x.away(1, 0), -1);
        is("13: below", x.away(0, 0), -4);
        is("13: above", x.away(0, 61), -6);
        is("13: cut off by it", x.away(0, 1), 71);
        is("13: is cut off", x.looker(0, 7), 1);
        is("13: no more", x.away(0, 1), -3);
        is("13: below first", x.away(0, 0), -4);
        is("13: above first", x.away(0, 61), -6);
        is("13: -3 counted", x.count(13), 1);
        is("13: SECOND stays", x.looker(0, 3), 71);
        is("13: what is read stays", x.looker(0, 6), 1);
    }

    private static void page() {
        OverTheShoulder x = told("l0012;l0012;l1012;k111;k1130;h0010;");
        x.read(0, 0);
        x.read(0, 0);
        x.read(1, 0);
        x.away(1, 60);
        is("14: of all together", x.page(), 3);
        for (int what = 3; what <= 7; what++) {
            is("14: nothing is left of " + what, x.looker(0, what) + x.looker(1, what), 0);
        }
        is("14: lines stay", x.count(0), 3);
        is("14: none then", x.page(), 0);
    }

    private static void most() {
        OverTheShoulder x = told("l0095;l0015;l1014;k1130;k0430;h0010;");
        is("15: both of column 0", x.most(0), 10);
        is("15: too slow", x.most(1), 0);
        x.base(14);
        is("15: all", x.most(0), 11);
        x.base(13);
        x.read(0, 1);
        is("15: with what is read", x.most(0), 10);
        x.base(10);
        x.read(0, 0);
        is("15: behind that none can be", x.most(0), 10);
        is("15: cut off", x.read(0, 0), -9);
        x.base(99);
        is("15: no more when cut off", x.most(0), 10);
        is("15: nobody", x.most(2), -1);
        is("15: nobody below", x.most(-1), -1);
        OverTheShoulder order = told("h3016;l0055;l1054;l2055;k1113;");
        is("15: the order counts: noticed by the last alone", order.most(0), 10);
        OverTheShoulder kindly = told("h2010;l0056;l1056;k115;");
        is("15: kindly, noticed twice", kindly.most(0), 10);
        is("15: kindly, which takes him longer", told("h0010;l0056;l1056;k115;").most(0), 5);
    }

    private static void plan() {
        OverTheShoulder x = told("l0001;l0051;l1052;k1130;h0010;");
        is("16: all, first", x.plan(0, 0), 0);
        is("16: all, second", x.plan(0, 1), 0);
        is("16: all, third", x.plan(0, 2), 1);
        is("16: none such", x.plan(0, 3), -9);
        is("16: none such far off", x.plan(0, Integer.MAX_VALUE), -9);
        is("16: below", x.plan(0, -1), -4);
        is("16: nobody first", x.plan(1, -1), -1);
        OverTheShoulder y = told("l0001;l0054;l1055;k1130;h0010;");
        x.away(0, 8);
        is("16: the shorter of two", x.plan(0, 0), 1);
        is("16: is one long", x.plan(0, 1), -9);
        is("16: other lines", y.plan(0, 0), 0);
        OverTheShoulder z = told("l2001;l1051;l0001;k1130;");
        is("16: what is worth nothing is left out", z.plan(0, 0), 1);
        is("16: nothing behind it", z.plan(0, 1), -9);
        is("16: with none", told("k111;").plan(0, 0), -9);
        OverTheShoulder last = told("h3016;l0055;l1055;l2093;k1112;");
        is("16: 8 seconds, then noticed by the third: 14", last.plan(0, 0), 0);
        is("16: the greater one is had", last.most(0), 14);
    }

    private static void by() {
        OverTheShoulder x = told("l0053;l0024;k1130;h0030;");
        int[] due = {0, 0, 0, 5, 5, 5, 5, 7, 7};
        for (int second = 0; second < due.length; second++) {
            is("17: by " + second, x.by(0, second), due[second]);
        }
        is("17: by 999", x.by(0, 999), 7);
        is("17: below", x.by(0, -1), -4);
        is("17: above", x.by(0, 1000), -6);
        is("17: nobody first", x.by(1, 1000), -1);
        x.read(0, 0);
        is("17: what is read stays so", x.by(0, 0), 5);
        OverTheShoulder y = told("l0059;l0029;k1130;h0010;");
        is("17: not behind his turn", y.by(0, 999), 5);
    }

    private static void rest() {
        OverTheShoulder x = told("h3012;l0035;l0045;k115;");
        is("18: at first it helps nothing", x.rest(0, 0), 0);
        is("18: MOST then", x.rest(0, 1), 3);
        x.read(0, 0);
        is("18: without", x.most(0), 3);
        is("18: one second", x.rest(0, 0), 1);
        is("18: MOST with it", x.rest(0, 1), 7);
        is("18: ON stays", x.looker(0, 4), 5);
        x.base(10);
        is("18: too late", x.rest(0, 0), 0);
        is("18: as much as without", x.rest(0, 1), 3);
        is("18: other", x.rest(0, 2), -2);
        is("18: other below", x.rest(0, -1), -2);
        is("18: nobody first", x.rest(1, 2), -1);
        x.read(0, 0);
        is("18: cut off", x.rest(0, 0), 0);
        is("18: cut off, what is read", x.rest(0, 1), 3);
    }

    private static void first() {
        OverTheShoulder x = told("l0012;l1092;l3091;k1130;h0010;");
        is("19: all can be had, the least", x.first(0), 0);
        x.away(0, 8);
        is("19: the greater one", x.first(0), 1);
        x.away(0, 1);
        is("19: each cuts off, the least", x.first(0), 0);
        x.read(0, 1);
        is("19: cut off", x.first(0), -9);
        is("19: nobody", x.first(1), -1);
        OverTheShoulder y = told("l3091;k0130;");
        is("19: none seen", y.first(0), -9);
        OverTheShoulder z = told("l2001;l1051;k1130;");
        is("19: both lead to the same", z.first(0), 1);
        is("19: what comes behind counts", told("l0009;l1013;l2001;l2098;k1130;h0010;").first(0), 2);
    }

    private static void hold() {
        is("20: nobody", new OverTheShoulder().hold(), 0);
        OverTheShoulder x = told("l0091;k1130;");
        is("20: turned from column 0", x.hold(), 0);
        is("20: column 3 is seen with -1", told("l3091;k1130;").hold(), 1);
        is("20: column 2 is seen with -1 and 0", told("l2091;k1130;").hold(), 2);
        is("20: together", told("l0031;l0031;l2051;l3041;k0130;k1130;").hold(), 2);
        is("20: TILT stays", x.holder(3), 1);
    }

    private static void bend() {
        is("21: nobody", told("h5120;").bend(), 0);
        OverTheShoulder x = told("l0091;k1130;h5120;");
        is("21: hiding and folding, the least", x.bend(), 4);
        is("21: KIND stays", x.holder(0), 5);
        is("21: folding alone", told("l1091;k1130;h0220;").bend(), 5);
        is("21: sharp", told("l1096;l1096;k115;h1012;").bend(), 3);
    }

    private static void early() {
        is("22: nobody", new OverTheShoulder().early(0), 99);
        OverTheShoulder x = told("l0059;l0089;k1230;k2115;h0050;");
        is("22: not even the first", x.early(4), 17);
        is("22: the first alone", x.early(5), 35);
        is("22: the first alone still", x.early(12), 35);
        is("22: all", x.early(13), 99);
        is("22: greatest", x.early(999), 99);
        is("22: above", x.early(1000), -6);
        is("22: below", x.early(-1), -4);
        is("22: BASE stays", x.holder(2), 50);
        x.read(0, 0);
        is("22: it is had already", x.early(4), -9);
        OverTheShoulder slow = told("l0059;k1230;h1299;");
        is("22: slow", slow.early(4), 11);
        Checks.tell(slow, "h1399;");
        is("22: too slow", slow.early(4), -9);
        is("22: not even with 10", told("l0051;l0059;k1115;h0099;").early(5), -9);
        is("22: just 10", told("l0059;l0052;k1130;h0099;").early(5), 10);
    }

    private static void seat() {
        OverTheShoulder x = told("l3091;k0130;");
        is("23: column 3 is seen from 2", x.seat(0), 2);
        is("23: SEAT stays", x.looker(0, 0), 0);
        is("23: column 2 from 1", told("l2091;k0130;").seat(0), 1);
        is("23: of several the least", told("l1091;k2130;").seat(0), 0);
        is("23: with nothing", told("k2130;").seat(0), 0);
        is("23: nobody", x.seat(1), -1);
    }

    private static void more() {
        OverTheShoulder x = told("l0092;l2042;k0130;k2130;k1130;");
        is("24: more", x.more(0, 1), 5);
        is("24: less", x.more(1, 0), -5);
        is("24: of all", x.more(2, 1), 9);
        is("24: twice", x.more(0, 0), REFUSED_MORE);
        is("24: nobody", x.more(0, 3), REFUSED_MORE);
        is("24: nobody ahead", x.more(-1, 0), REFUSED_MORE);
        is("24: counted", x.count(11), 3);
    }

    private static void both() {
        OverTheShoulder x = told("l0092;l2042;l1022;k0130;k2130;k1130;");
        is("25: both have the middle", x.both(0, 1), 15);
        is("25: the other way", x.both(1, 0), 15);
        x.base(10);
        x.away(0, 8);
        x.away(1, 8);
        is("25: one line each", x.both(0, 1), 13);
        x.page();
        x.read(0, 1);
        x.away(0, 8);
        is("25: what is read already counts", x.both(0, 1), 6);
        is("25: twice", x.both(1, 1), -1);
        is("25: nobody", x.both(1, 3), -1);
        is("25: nobody below", x.both(-1, 1), -1);
        is("25: counted", x.count(11), 3);
    }

    private static void chance() {
        OverTheShoulder x = told("l0069;l0011;l1031;k1130;h0012;");
        is("26: no row, above", x.chance(0, 3, 0), 0);
        is("26: no row, below", x.chance(0, 3, 1), 1);
        x.row(0);
        is("26: sure, above", x.chance(0, 3, 0), 6);
        is("26: sure, below", x.chance(0, 3, 1), 1);
        is("26: with halves, above", x.chance(0, 1, 0), 6);
        is("26: with halves, below", x.chance(0, 1, 1), 1);
        is("26: four of five, above", x.chance(0, 4, 0), 24);
        is("26: four of five, below", x.chance(0, 4, 1), 5);
        is("26: in least terms, above", x.chance(0, 5, 0), 4);
        is("26: in least terms, below", x.chance(0, 5, 1), 1);
        x.row(3);
        x.row(1);
        x.row(1);
        is("26: what can't be is left out", x.chance(0, 0, 0), 9);
        is("26: the next one sooner, above", x.chance(0, 3, 0), 33);
        is("26: the next one sooner, below", x.chance(0, 3, 1), 4);
        is("26: the row stays", x.count(9), 4);
        is("26: at the most, above", x.chance(0, 20, 0), 11);
        is("26: at the most, below", x.chance(0, 20, 1), 7);
        x.read(0, 1);
        is("26: what is read counts", x.chance(0, 2, 0), 9);
        is("26: nothing is read by it", x.looker(0, 6), 4);
    }

    private static void chanceRefusals() {
        OverTheShoulder x = told("k1130;");
        is("26: nobody first", x.chance(1, -1, 2), REFUSED_CHANCE + 1);
        is("26: nobody below", x.chance(-1, 0, 0), REFUSED_CHANCE + 1);
        x.row(4);
        is("26: below", x.chance(0, -1, 2), REFUSED_CHANCE + 4);
        is("26: above", x.chance(0, 21, 2), REFUSED_CHANCE + 6);
        is("26: other", x.chance(0, 20, 2), REFUSED_CHANCE + 2);
        is("26: other below", x.chance(0, 20, -1), REFUSED_CHANCE + 2);
        is("26: a number above 3", x.chance(0, 20, 1), REFUSED_CHANCE + 3);
        int[] due = {2, 2, 1, 1, 0, 1};
        for (int i = 0; i < due.length; i++) {
            is("26: counted " + (11 + i), x.count(11 + i), due[i]);
        }
        is("26: the row stays when refused", x.count(9), 1);
    }

    private static void missedAndLeft() {
        OverTheShoulder x = told("l0012;l1022;l2032;l3042;k0130;k2130;h0010;");
        is("27: of its columns", x.missed(0), 3);
        is("27: of the other's", x.missed(1), 14);
        is("28: all", x.left(0), 10);
        x.read(0, 0);
        is("27: not what is read", x.missed(0), 2);
        is("28: less what is read", x.left(0), 9);
        is("28: the other's own", x.left(1), 10);
        x.away(0, 60);
        is("27: when cut off, too", x.missed(0), 2);
        x.tilt(1);
        is("27: as it is tilted", x.missed(0), 0);
        is("28: as it was", x.left(0), 9);
        is("27: nobody", x.missed(2), -1);
        is("27: nobody below", x.missed(-1), -1);
        is("28: nobody", x.left(2), -1);
        is("28: nobody below", x.left(-1), -1);
        is("27, 28: counted", x.count(11), 4);
    }

    private static void kinds() {
        OverTheShoulder x = told("l0041;l0361;l1091;");
        is("29: with 9", x.kinds(0, 9), 37);
        is("29: with 7", x.kinds(0, 7), 2);
        is("29: with 5", x.kinds(0, 5), 8);
        is("29: with 14", x.kinds(0, 14), 16);
        is("29: with 8", x.kinds(0, 8), 0);
        is("29: the second with 10", x.kinds(1, 10), 5);
        is("29: the second with 7", x.kinds(1, 7), 2);
        is("29: the second with 9", x.kinds(1, 9), 8);
        is("29: the second with 11", x.kinds(1, 11), 32);
        is("29: the second with 15", x.kinds(1, 15), 16);
        is("29: KIND stays", x.line(1, 1), 3);
        is("29: another column", x.kinds(2, 9), 37);
        is("29: no such line", x.kinds(3, -1), -1);
        is("29: none below", x.kinds(-1, 0), -1);
        is("29: below", x.kinds(0, -1), -4);
        is("29: greatest", x.kinds(0, 999), 0);
        is("29: above", x.kinds(0, 1000), -6);
    }

    private static void row() {
        OverTheShoulder x = new OverTheShoulder();
        is("30: below", x.row(-1), -4);
        is("30: above", x.row(10), -6);
        is("30: greatest", x.row(9), 1);
        for (int n = 2; n <= 12; n++) {
            is("30: number " + n, x.row(0), n);
        }
        is("30: no room", x.row(0), -6);
        is("30: below first", x.row(-1), -4);
        is("30: how many", x.count(9), 12);
        is("30: -4 counted", x.count(14), 2);
        is("30: -6 counted", x.count(16), 2);
    }

    private static int judged(OverTheShoulder x, int... row) {
        for (int v : row) {
            x.row(v);
        }
        return x.judge(0);
    }

    private static void judge() {
        OverTheShoulder x = told("l0012;l0012;l1012;k1130;h0010;");
        is("31: no row", x.judge(0), -9);
        is("31: all can be", judged(x, 0, 1, 9, 9, 0, 9, 9), -9);
        is("31: the row is gone", x.count(9), 0);
        is("31: none left", judged(x, 0, 0, 0), 2);
        is("31: not seen", judged(x, 0, 3, 0), 1);
        for (int v = 4; v <= 8; v++) {
            is("31: no column " + v, judged(x, 0, 1, 0, v), 3);
        }
        is("31: cut off by looking away", judged(x, 0, 1, 0, 9, 9, 9, 9, 9, 9), 7);
        x.away(0, 6);
        is("31: cut off by reading", judged(x, 0, 1, 0), 2);
        is("31: the row is gone behind that", x.count(9), 0);
        x.row(0);
        is("31: nobody", x.judge(1), -1);
        is("31: nobody below", x.judge(-1), -1);
        is("31: the row stays", x.count(9), 1);
        x.away(0, 60);
        is("31: cut off ahead of it", x.judge(0), 0);
        is("31: cut off ahead of looking away", judged(x, 9), 0);
        is("31: cut off, no row", x.judge(0), -9);
        OverTheShoulder rested = told("h3012;l0035;l0045;k115;");
        is("31: noticed", judged(rested, 0, 0), 1);
        is("31: looking away helps", judged(rested, 0, 9, 0), -9);
    }

    private static void seeds() {
        // Seed 0 draws 0, 3, 3, 2, 3, 2, 0; seed -1 draws 4, 4, 2, 3, 3, 1, 0; seed 42 draws 1, 3, 4, 1, 1, 3, 2, 0.
        OverTheShoulder x = told("l0012;l0022;l1042;l2082;k113;h0010;");
        int[] worths = {1, 1, 1, 9, 9, 9, 11};
        int[] noticed = {0, 0, 0, 1, 1, 1, 1};
        for (int n = 1; n <= 7; n++) {
            is("32: WORTH of seed 0, " + n, x.seeds(0, n, 0, 0), worths[n - 1]);
            is("32: NOTICED of seed 0, " + n, x.seeds(0, n, 0, 1), noticed[n - 1]);
        }
        is("32: seed -1", x.seeds(0, 7, -1, 0), 13);
        x.base(10);
        x.away(0, 4);
        is("32: two seconds looked away", x.seeds(0, 6, -1, 0), 12);
        is("32: then cut off", x.seeds(0, 20, -1, 0), 12);
        is("32: noticed as cut off", x.seeds(0, 20, -1, 1), 1);
        is("32: seed 42", x.seeds(0, 8, 42, 0), 12);
        is("32: nothing is read by it", x.looker(0, 6), 0);
        is("32: nobody first", x.seeds(1, 0, 0, 2), -1);
        is("32: below", x.seeds(0, 0, 0, 2), -4);
        is("32: above", x.seeds(0, 21, 0, 2), -6);
        is("32: other", x.seeds(0, 20, 0, 2), -2);
        is("32: other below", x.seeds(0, 1, 0, -1), -2);
    }

    private static void image() {
        OverTheShoulder x = told("l0012;l1012;k113;h3412;t+;");
        is("34: there is none", x.restore(), -3);
        x.read(0, 0);
        is("33: how many lines", x.image(), 2);
        x.read(0, 1);
        x.away(0, 60);
        Checks.tell(x, "l2012;k2430;h5999;t-;");
        x.sit(0, 0);
        x.row(3);
        x.feed('l');
        is("34: how many lines", x.restore(), 2);
        int[] due = {1, 1, 3, 2, 2, 0, 1, 0, 12, 1};
        for (int what = 0; what < 10; what++) {
            is("34: looker's " + what, x.looker(0, what), due[what]);
        }
        is("34: lookers", x.count(1), 1);
        is("34: KIND", x.holder(0), 3);
        is("34: FIGURE", x.holder(1), 4);
        is("34: BASE", x.holder(2), 12);
        is("34: TILT", x.holder(3), 2);
        is("34: letters stay", x.count(8), 1);
        is("34: the row stays", x.count(9), 1);
        is("34: refusals stay", x.count(13), 1);
        is("34: the third line is gone", x.line(2, 0), -1);
        x.page();
        is("34: once more", x.restore(), 2);
        is("34: as it was", x.looker(0, 6), 1);
        x.train();
        Checks.tell(x, "l3123;");
        is("33: taken anew", x.image(), 3);
        x.page();
        is("34: the newer one", x.restore(), 3);
        is("34: its third line", x.line(2, 2), 2);
    }

    private static void count() {
        OverTheShoulder x = told(EIGHT_LINES);
        Checks.tell(x, "k1116;k029;k2130;h0020;");
        x.feed('l');
        x.row(1);
        x.row(1);
        x.away(0, 60);
        x.away(2, 60);
        int[] due = {8, 3, 49, 2, 3, 2, 2, 1, 1, 2};
        for (int what = 0; what < 10; what++) {
            is("35: count " + what, x.count(what), due[what]);
        }
        for (int what : new int[] {-1, 10, 17, 18, Integer.MIN_VALUE, Integer.MAX_VALUE}) {
            is("35: another " + what, x.count(what), -9);
        }
        x.most(3);
        x.holder(9);
        x.holder(9);
        x.away(0, 1);
        x.restore();
        x.restore();
        x.row(-1);
        x.shows(7);
        int[] refused = {1, 2, 3, 1, 0, 1};
        for (int i = 0; i < 6; i++) {
            is("35: refusals " + (11 + i), x.count(11 + i), refused[i]);
        }
    }

    private static void thoughtsChangeNothing() {
        OverTheShoulder x = told(EIGHT_LINES);
        Checks.tell(x, "k1116;k0120;h3530;t-;");
        x.read(0, 1);
        x.row(1);
        x.row(2);
        int before = state(x);
        x.most(0);
        x.plan(0, 1);
        x.by(0, 9);
        x.rest(0, 0);
        x.first(0);
        x.hold();
        x.bend();
        x.early(9);
        x.seat(0);
        x.more(0, 1);
        x.both(0, 1);
        x.chance(0, 20, 0);
        x.missed(0);
        x.left(0);
        x.kinds(0, 9);
        x.seeds(0, 20, 5, 0);
        x.image();
        is("II: in mind alone", state(x), before);
    }

    private static int state(OverTheShoulder x) {
        int sum = 0;
        for (int what = 0; what < 10; what++) {
            sum = sum * 31 + x.looker(0, what);
            sum = sum * 31 + x.looker(1, what);
            sum = sum * 31 + x.count(what);
            sum = sum * 31 + (what < 4 ? x.holder(what) : 0);
        }
        for (int i = 0; i < 8; i++) {
            for (int what = 0; what < 6; what++) {
                sum = sum * 31 + x.line(i, what);
            }
        }
        return sum;
    }
}
