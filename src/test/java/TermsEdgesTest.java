/**
 * Each bound that the Terms name for LINES, the HOLDER, LOOKERS, what a LINE takes and is WORTH, when he TURNS, what he
 * SHOWS: the last that is taken and the first that is not, nothing there, and all places taken.
 */
public final class TermsEdgesTest {
    private TermsEdgesTest() {
    }

    public static void main(String[] args) {
        linesAsTheyCome();
        lineNumbers();
        holderAtFirst();
        holderNumbers();
        lookersAsTheyCome();
        lookerNumbers();
        takesOfEachKind();
        takesOneAtLeast();
        worthOfEachKind();
        worthOfGuess();
        worthOfEnd();
        turnsOfEachKind();
        turnsNoughtAtLeast();
        showsToTheSeatsBeside();
        showsHiding();
        showsFolding();
        Checks.end("TermsEdgesTest");
    }

    private static void is(String what, long got, long due) {
        Checks.equal(what, got, due);
    }

    private static OverTheShoulder told(String train) {
        return Checks.told(train);
    }

    /** A statement that is out of range: it is told to a new object, and nothing comes of it. */
    private static void outOfRange(String statement) {
        OverTheShoulder x = new OverTheShoulder();
        is("out of range: " + statement, Checks.tell(x, statement), -2000);
        is("none came by " + statement, x.count(0) + x.count(1), 0);
        is("the HOLDER's KIND stays by " + statement, x.holder(0), 0);
        is("the HOLDER's BASE stays by " + statement, x.holder(2), 30);
    }

    private static void linesAsTheyCome() {
        OverTheShoulder x = told("l0011;l3021;l1031;l2041;l3051;l0061;l2071;");
        is("LINES 0 .. 7: the seventh is there", x.line(6, 2), 7);
        is("LINES 0 .. 7: the eighth is not yet", x.line(7, 2), -1);
        is("LINES 0 .. 7: the eighth is taken", Checks.tell(x, "l1089;"), 1);
        is("LINES 0 .. 7: the eighth is there", x.line(7, 2), 8);
        is("LINES 0 .. 7: there is no ninth", x.line(8, 2), -1);
        is("LINES 0 .. 7: a ninth finds no room", Checks.tell(x, "l0091;"), -2000);
        is("LINES 0 .. 7: eight stay", x.count(0), 8);
        int[] columns = {0, 3, 1, 2, 3, 0, 2, 1};
        int[] ahead = {0, 0, 0, 0, 1, 1, 1, 1};
        for (int line = 0; line < 8; line++) {
            is("as they come: FIGURE of " + line, x.line(line, 2), line + 1);
            is("as they come: COLUMN of " + line, x.line(line, 0), columns[line]);
            is("behind those that are there already: " + line, x.line(line, 5), ahead[line]);
        }
        OverTheShoulder oneColumn = told("l2001;l2001;l2001;l2001;l2001;l2001;l2001;l2001;");
        for (int line = 0; line < 8; line++) {
            is("all in one COLUMN: ahead of " + line, oneColumn.line(line, 5), line);
        }
    }

    private static void lineNumbers() {
        is("COLUMN 0 is taken", told("l0011;").line(0, 0), 0);
        is("COLUMN 3 is taken", told("l3011;").line(0, 0), 3);
        outOfRange("l4011;");
        outOfRange("l9011;");
        is("KIND 0 is taken", told("l0011;").line(0, 1), 0);
        is("KIND 5 is taken", told("l0511;").line(0, 1), 5);
        outOfRange("l0611;");
        outOfRange("l0911;");
        is("FIGURE 0 is taken", told("l0001;").line(0, 2), 0);
        is("FIGURE 9 is taken", told("l0091;").line(0, 2), 9);
        is("SECONDS 1 are taken", told("l0011;").line(0, 3), 1);
        is("SECONDS 9 are taken", told("l0019;").line(0, 3), 9);
        outOfRange("l0010;");
    }

    private static void holderAtFirst() {
        int[] due = {0, 0, 30, 1};
        for (int what = 0; what < 4; what++) {
            is("HOLDER at first: " + what, new OverTheShoulder().holder(what), due[what]);
        }
    }

    private static void holderNumbers() {
        is("HOLDER's KIND 0 is taken", told("h1099;h0120;").holder(0), 0);
        is("HOLDER's KIND 5 is taken", told("h5120;").holder(0), 5);
        outOfRange("h6120;");
        outOfRange("h9120;");
        is("HOLDER's FIGURE 0 is taken", told("h1920;h1020;").holder(1), 0);
        is("HOLDER's FIGURE 9 is taken", told("h0920;").holder(1), 9);
        is("BASE 10 is taken", told("h0010;").holder(2), 10);
        is("BASE 99 is taken", told("h0099;").holder(2), 99);
        outOfRange("h0009;");
        outOfRange("h0000;");
        OverTheShoulder x = new OverTheShoulder();
        is("10: BASE 10 is taken", x.base(10), 30);
        is("10: BASE 10 is there", x.holder(2), 10);
        is("10: BASE 99 is taken", x.base(99), 10);
        is("10: BASE 99 is there", x.holder(2), 99);
        is("10: the same once more", x.base(99), 99);
        is("9: TILT -1 is taken", x.tilt(-1), 1);
        is("9: TILT -1 is there", x.holder(3), 0);
        is("9: TILT 1 is taken", x.tilt(1), 0);
        is("9: TILT 1 is there", x.holder(3), 2);
        is("9: the same once more", x.tilt(1), 2);
        is("9: TILT 0 is taken", x.tilt(0), 2);
        is("9: TILT 0 is there", x.holder(3), 1);
    }

    private static void lookersAsTheyCome() {
        OverTheShoulder x = told("k011;k122;k233;");
        is("LOOKERS 0 .. 3: the third is there", x.looker(2, 2), 3);
        is("LOOKERS 0 .. 3: the fourth is not yet", x.looker(3, 2), -1);
        is("LOOKERS 0 .. 3: the fourth is taken", Checks.tell(x, "k044;"), 1);
        is("LOOKERS 0 .. 3: the fourth is there", x.looker(3, 2), 4);
        is("LOOKERS 0 .. 3: there is no fifth", x.looker(4, 2), -1);
        is("LOOKERS 0 .. 3: a fifth finds no room", Checks.tell(x, "k011;"), -2000);
        is("LOOKERS 0 .. 3: four stay", x.count(1), 4);
        int[] seats = {0, 1, 2, 0};
        for (int looker = 0; looker < 4; looker++) {
            is("as they come: SEAT of " + looker, x.looker(looker, 0), seats[looker]);
            is("as they come: PACE of " + looker, x.looker(looker, 1), looker + 1);
            is("as they come: NERVE of " + looker, x.looker(looker, 2), looker + 1);
            for (int what = 3; what <= 7; what++) {
                is("0 each at first: " + what + " of " + looker, x.looker(looker, what), 0);
            }
            is("WORTH of nothing READ, of " + looker, x.looker(looker, 9), 0);
        }
    }

    private static void lookerNumbers() {
        is("SEAT 0 is taken", told("k011;").looker(0, 0), 0);
        is("SEAT 2 is taken", told("k211;").looker(0, 0), 2);
        outOfRange("k311;");
        outOfRange("k911;");
        is("PACE 1 is taken", told("k011;").looker(0, 1), 1);
        is("PACE 4 is taken", told("k041;").looker(0, 1), 4);
        outOfRange("k001;");
        outOfRange("k051;");
        is("NERVE 1 is taken", told("k011;").looker(0, 2), 1);
        is("NERVE 01 is taken", told("k0101;").looker(0, 2), 1);
        is("NERVE 9 of one digit is taken", told("k019;").looker(0, 2), 9);
        is("NERVE 10 of two digits is taken", told("k0110;").looker(0, 2), 10);
        is("NERVE 30 is taken", told("k0130;").looker(0, 2), 30);
        outOfRange("k010;");
        outOfRange("k0100;");
        outOfRange("k0131;");
        outOfRange("k0199;");
        OverTheShoulder x = told("k1116;");
        is("11: SEAT 0 is taken", x.sit(0, 0), 1);
        is("11: SEAT 2 is taken", x.sit(0, 2), 0);
        is("11: SEAT 2 is there", x.looker(0, 0), 2);
        is("11: the same once more", x.sit(0, 2), 2);
    }

    private static void takes(String line, int pace, int due) {
        is(line + " takes one with PACE " + pace, told(line + "k0" + pace + "9;").takes(0, 0), due);
    }

    private static void takesOfEachKind() {
        takes("l0091;", 1, 1);
        takes("l0099;", 4, 36);
        takes("l0199;", 4, 18);
        takes("l0103;", 2, 3);
        takes("l0209;", 4, 36);
        takes("l0291;", 1, 10);
        takes("l0299;", 4, 45);
        takes("l0399;", 4, 18);
        takes("l0303;", 2, 3);
        takes("l0409;", 4, 39);
        takes("l0491;", 1, 13);
        takes("l0499;", 4, 48);
        takes("l0591;", 1, 1);
        takes("l0599;", 4, 36);
        OverTheShoulder all = told("l0011;l0022;l0033;l0044;l0055;l0066;l0077;l0088;k019;k029;k039;k049;");
        is("7: the last LINE, the last LOOKER", all.takes(7, 3), 32);
        is("7: the first LINE, the last LOOKER", all.takes(0, 3), 4);
        is("7: the last LINE, the first LOOKER", all.takes(7, 0), 8);
    }

    private static void takesOneAtLeast() {
        for (String line : new String[] {"l019", "l039"}) {
            takes(line + "1;", 1, 1);
            takes(line + "2;", 1, 1);
            takes(line + "3;", 1, 1);
            takes(line + "4;", 1, 2);
            takes(line + "1;", 2, 1);
            takes(line + "1;", 3, 1);
            takes(line + "1;", 4, 2);
            takes(line + "3;", 3, 4);
        }
    }

    private static void worth(String line, int due) {
        is(line + " alone is worth", told(line).line(0, 4), due);
    }

    private static void worthOfEachKind() {
        worth("l0001;", 0);
        worth("l0091;", 9);
        worth("l0101;", 0);
        worth("l0111;", 0);
        worth("l0121;", 1);
        worth("l0181;", 4);
        worth("l0191;", 4);
        worth("l0201;", 0);
        worth("l0291;", 9);
        worth("l0401;", 5);
        worth("l0491;", 14);
        is("35: WORTH of no LINES", new OverTheShoulder().count(2), 0);
        is("35: WORTH of all LINES at the most",
                told("l0491;l0491;l1491;l1491;l2491;l2491;l3491;l3491;").count(2), 112);
    }

    private static void worthOfGuess() {
        worth("l0301;", 0);
        worth("l0391;", 4);
        int[] kinds = {0, 1, 2, 4, 5};
        for (int kind : kinds) {
            is("2 more behind KIND " + kind, told("l0" + kind + "01;l0391;").line(1, 4), 6);
        }
        is("2 more with FIGURE 0", told("l0001;l0301;").line(1, 4), 2);
        is("2 more with FIGURE 1", told("l0001;l0311;").line(1, 4), 2);
        is("none behind a GUESSED one", told("l0301;l0391;").line(1, 4), 4);
        is("none, if it is not just ahead", told("l0001;l0301;l0391;").line(2, 4), 4);
        is("2 more, if a GUESSED one is not just ahead", told("l0301;l0001;l0391;").line(2, 4), 6);
        is("none for another COLUMN's just ahead", told("l1001;l0391;").line(1, 4), 4);
        is("2 more across another COLUMN's", told("l0001;l1301;l0391;").line(2, 4), 6);
        is("none across another COLUMN's", told("l0301;l1001;l0391;").line(2, 4), 4);
        is("none for what is behind", told("l0391;l0001;").line(0, 4), 4);
    }

    private static void worthOfEnd() {
        worth("l0501;", 0);
        worth("l0591;", 9);
        OverTheShoulder x = told("l0501;l1501;l0501;l0301;l0501;l1501;l0001;l0591;");
        int[] due = {0, 0, 1, 2, 3, 1, 0, 14};
        for (int line = 0; line < 8; line++) {
            is("an END's WORTH is of those ahead in its COLUMN: " + line, x.line(line, 4), due[line]);
        }
        is("all ahead of the last", told("l3001;l3001;l3001;l3001;l3001;l3001;l3001;l3591;").line(7, 4), 16);
    }

    /** When he turns for one who was noticed so often. */
    private static int turns(String holder, int noticed) {
        OverTheShoulder x = told("h0099;k111;");
        for (int i = 0; i < noticed; i++) {
            Checks.tell(x, "l0002;");
            x.read(0, 0);
        }
        is("so often NOTICED", x.looker(0, 5), noticed);
        is(holder, Checks.tell(x, holder), 1);
        return x.looker(0, 8);
    }

    private static void turnsOfEachKind() {
        String[] holders = {"h0999;", "h1999;", "h2999;", "h3999;", "h4999;", "h5999;", "h1010;", "h2010;"};
        int[] unnoticed = {99, 126, 126, 99, 90, 99, 10, 10};
        int[] once = {99, 126, 131, 95, 86, 99, 10, 15};
        int[] eightTimes = {99, 126, 166, 67, 58, 99, 10, 50};
        for (int i = 0; i < holders.length; i++) {
            is(holders[i] + " turns, not NOTICED", turns(holders[i], 0), unnoticed[i]);
            is(holders[i] + " turns, NOTICED once", turns(holders[i], 1), once[i]);
            is(holders[i] + " turns, NOTICED eight times", turns(holders[i], 8), eightTimes[i]);
        }
    }

    private static void turnsNoughtAtLeast() {
        is("SHARP, 2 left", turns("h3910;", 2), 2);
        is("SHARP, just 0", turns("h3912;", 3), 0);
        is("SHARP, 0 at least", turns("h3911;", 3), 0);
        is("SHARP, 0 at least, far below", turns("h3910;", 8), 0);
        is("HIDING, 1 left", turns("h4910;", 0), 1);
        is("HIDING, 1 left of one NOTICED", turns("h4510;", 1), 1);
        is("HIDING, just 0", turns("h4610;", 1), 0);
        is("HIDING, 0 at least", turns("h4710;", 1), 0);
        is("HIDING, 0 at least, far below", turns("h4910;", 8), 0);
    }

    private static void showsEach(String holder, int tilted, int toLeft, int toMiddle, int toRight) {
        OverTheShoulder x = told(holder);
        x.tilt(tilted);
        is(holder + " with " + tilted + " to SEAT 0", x.shows(0), toLeft);
        is(holder + " with " + tilted + " to SEAT 1", x.shows(1), toMiddle);
        is(holder + " with " + tilted + " to SEAT 2", x.shows(2), toRight);
    }

    private static void showsToTheSeatsBeside() {
        for (int kind = 0; kind <= 3; kind++) {
            showsEach("h" + kind + "930;", -1, 7, 14, 12);
            showsEach("h" + kind + "930;", 0, 3, 7, 14);
            showsEach("h" + kind + "930;", 1, 1, 3, 7);
        }
        is("8: none at first but as a HOLDER", new OverTheShoulder().shows(2), 14);
    }

    private static void showsHiding() {
        showsEach("h4930;", -1, 2, 4, 8);
        showsEach("h4930;", 0, 1, 2, 4);
        showsEach("h4930;", 1, 0, 1, 2);
    }

    private static void showsFolding() {
        int[] least = {0, 1, 2, 3, 0, 1, 2, 3, 0, 1};
        for (int figure = 0; figure < 10; figure++) {
            int those = 15 << least[figure];
            showsEach("h5" + figure + "30;", -1, 7 & those, 14 & those, 12 & those);
            showsEach("h5" + figure + "30;", 0, 3 & those, 7 & those, 14 & those);
            showsEach("h5" + figure + "30;", 1, 1 & those, 3 & those, 7 & those);
        }
        showsEach("h5330;", 0, 0, 0, 8);
        showsEach("h5430;", 0, 3, 7, 14);
    }
}
