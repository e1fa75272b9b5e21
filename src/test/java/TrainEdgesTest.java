/** Each bound of letters and TRAINS: the least and the greatest, the place of each FAULT, no room, all or nothing. */
public final class TrainEdgesTest {
    private static final String TILTS = "t0;";
    private static final int LETTERS = 96;

    private TrainEdgesTest() {
    }

    public static void main(String[] args) {
        letters();
        noMoreLetters();
        oneStatementAtLeast();
        longestTrain();
        theEndIfSomethingLacks();
        firstLetterThatCannotBe();
        signsBesideThoseThatCanBe();
        eachDigit();
        formAheadOfSense();
        firstStatementThatIsNotAsItMustBe();
        noRoomForLines();
        noRoomForLookers();
        withFaultNothing();
        withoutFaultAll();
        Checks.end("TrainEdgesTest");
    }

    private static void is(String what, long got, long due) {
        Checks.equal(what, got, due);
    }

    /** What a new object answers to a text as a train, which it then has no more. */
    private static int trained(String text) {
        OverTheShoulder x = new OverTheShoulder();
        int answer = Checks.tell(x, text);
        is("3: no letters behind '" + text + "'", x.count(8), 0);
        return answer;
    }

    private static void letters() {
        OverTheShoulder x = new OverTheShoulder();
        is("2: letter 0 is taken", x.feed(0), 1);
        is("2: letter 255 is taken", x.feed(255), 2);
        is("2: letter -1 is refused", x.feed(-1), -4);
        is("2: letter 256 is refused", x.feed(256), -6);
        for (int n = 3; n < LETTERS; n++) {
            is("2: how many there are", x.feed(';'), n);
        }
        is("2: the 96th is taken", x.feed(';'), 96);
        is("2: the 97th is refused", x.feed(';'), -6);
        is("2: 96 are there", x.count(8), 96);
    }

    private static void noMoreLetters() {
        OverTheShoulder x = new OverTheShoulder();
        is("3: with a FAULT", Checks.tell(x, "t0;t"), -1004);
        is("3: the letters are no more", x.count(8), 0);
        is("3: nothing of them is left", x.train(), -1000);
        is("3: without a FAULT", Checks.tell(x, "t0;t0;"), 2);
        is("3: the letters are no more then", x.count(8), 0);
        is("3: nothing of them is left then", x.train(), -1000);
        Checks.tell(x, TILTS.repeat(32));
        is("3: after 96 letters there is room", x.feed('t'), 1);
    }

    private static void oneStatementAtLeast() {
        is("3: none is no TRAIN", trained(""), -1000);
        is("3: an empty one is none", trained(";"), -1000);
        is("3: one is a TRAIN", trained("t0;"), 1);
        is("3: an empty one behind another", trained("t0;;"), -1003);
    }

    private static void longestTrain() {
        is("3: 96 letters, 32 STATEMENTS", trained(TILTS.repeat(32)), 32);
        is("3: the last of 96 letters can't be", trained(TILTS.repeat(31) + "t00"), -1095);
        is("3: the last but one can't be", trained(TILTS.repeat(31) + "tx;"), -1094);
        is("3: behind 96 letters one lacks", trained(TILTS.repeat(31) + "l00"), -1096);
        is("3: the last of 32 is out of range", trained(TILTS.repeat(30) + "l0010;"), -2090);
        is("3: 16 LINES of 96 letters", trained("l0011;".repeat(16)), -2048);
        is("3: 19 LOOKERS of 95 letters", trained("k011;".repeat(19)), -2020);
    }

    private static void theEndIfSomethingLacks() {
        for (String whole : new String[] {"l3599;", "h5999;", "t+;", "k2430;"}) {
            for (int length = 1; length < whole.length(); length++) {
                String lacking = whole.substring(0, length);
                is("3: lacks behind '" + lacking + "'", trained(lacking), -1000 - length);
                is("3: lacks behind another and '" + lacking + "'", trained(whole + lacking),
                        -1000 - whole.length() - length);
            }
            is("3: nothing lacks of '" + whole + "'", trained(whole), 1);
        }
        is("3: nothing lacks of a NERVE of one digit", trained("k011;"), 1);
        is("3: a NERVE lacks", trained("k01;"), -1003);
        is("3: the second digit of a BASE lacks", trained("h001;"), -1004);
    }

    /** One letter too many or a wrong one, at each place of each statement. */
    private static void firstLetterThatCannotBe() {
        for (String whole : new String[] {"l3599;", "h5999;", "t+;", "k2430;"}) {
            for (int place = 0; place < whole.length(); place++) {
                String wrong = whole.substring(0, place) + "x" + whole.substring(place + 1);
                is("3: '" + wrong + "'", trained(wrong), -1000 - place);
                is("3: '" + TILTS + wrong + "'", trained(TILTS + wrong), -1003 - place);
            }
        }
        is("3: a digit too many of a LINE", trained("l00111;"), -1005);
        is("3: a digit too many of the HOLDER", trained("h00200;"), -1005);
        is("3: a digit too many of a LOOKER", trained("k01111;"), -1005);
        is("3: a sign too many of a TILT", trained("t00;"), -1002);
        is("3: letter 0", trained("\0"), -1000);
        is("3: letter 255", trained("t0;\u00ff"), -1003);
    }

    private static void signsBesideThoseThatCanBe() {
        for (char sign : "kmLgiHsuTjlK\\".toCharArray()) {
            boolean starts = "lhtk".indexOf(sign) >= 0;
            is("3: '" + sign + "' starts", trained(String.valueOf(sign)), starts ? -1001 : -1000);
        }
        for (char sign : "/:".toCharArray()) {
            is("3: '" + sign + "' is no digit of a LINE", trained("l" + sign), -1001);
            is("3: '" + sign + "' is no digit of the HOLDER", trained("h00" + sign), -1003);
            is("3: '" + sign + "' is no digit of a LOOKER", trained("k01" + sign), -1003);
            is("3: '" + sign + "' is no NERVE's second digit", trained("k011" + sign), -1004);
        }
        for (char sign : ":<".toCharArray()) {
            is("3: '" + sign + "' ends no LINE", trained("l0011" + sign), -1005);
            is("3: '" + sign + "' ends no TILT", trained("t0" + sign), -1002);
        }
        for (char sign : "*,./1".toCharArray()) {
            is("3: '" + sign + "' is no TILT", trained("t" + sign + ";"), -1001);
        }
    }

    private static void eachDigit() {
        for (char digit = '0'; digit <= '9'; digit++) {
            is("3: digit of a COLUMN " + digit, trained("l" + digit), -1002);
            is("3: digit of SECONDS " + digit, trained("l000" + digit), -1005);
            is("3: digit of a BASE " + digit, trained("h000" + digit), -1005);
            is("3: digit of a NERVE " + digit, trained("k000" + digit), -1005);
        }
        OverTheShoulder x = new OverTheShoulder();
        for (int tens = 1; tens <= 9; tens++) {
            Checks.tell(x, "h00" + tens + (9 - tens) + ";");
            is("3: BASE of two digits", x.holder(2), 10 * tens + 9 - tens);
        }
    }

    private static void formAheadOfSense() {
        is("3: kind 1 stands ahead of kind 2", trained("l9999;x"), -1006);
        is("3: kind 1 at the end, too", trained("l9999;l"), -1007);
        is("3: kind 1 in the same STATEMENT", trained("l9990"), -1005);
        is("3: kind 1 ahead of no room", trained("l0011;".repeat(9) + "l001;"), -1058);
        is("3: else kind 2", trained("l9999;"), -2000);
    }

    private static void firstStatementThatIsNotAsItMustBe() {
        is("3: the first letter of the STATEMENT", trained("t0;l0010;"), -2003);
        is("3: the first of two", trained("t0;k311;h0009;"), -2003);
        is("3: the second alone", trained("l0011;k0130;h0009;"), -2012);
        is("3: behind a NERVE of one digit", trained("k011;l0010;"), -2005);
        is("3: behind a NERVE of two digits", trained("k0111;l0010;"), -2006);
        is("3: behind a HOLDER", trained("h0010;l0010;"), -2006);
    }

    private static void noRoomForLines() {
        OverTheShoulder x = Checks.told("l0011;l0011;l0011;l0011;l0011;l0011;");
        is("3: two more, a third finds no room", Checks.tell(x, "t0;l0011;k011;l0011;l0011;"), -2020);
        is("3: none of them came", x.count(0), 6);
        is("3: two more find room", Checks.tell(x, "t0;l0011;k011;l0011;"), 4);
        is("3: then there are eight", x.count(0), 8);
        is("3: no room behind what needs none", Checks.tell(x, "t0;h0010;l0011;"), -2009);
        is("3: a HOLDER needs none", Checks.tell(x, "h0010;"), 1);
        is("3: eight at once", trained("l0011;".repeat(8)), 8);
        is("3: nine at once", trained("l0011;".repeat(9)), -2048);
    }

    private static void noRoomForLookers() {
        OverTheShoulder x = Checks.told("k011;k011;");
        is("3: two more, a third finds no room", Checks.tell(x, "k011;l0011;k0111;k011;"), -2017);
        is("3: none of them came", x.count(1), 2);
        is("3: two more find room", Checks.tell(x, "k011;l0011;k0111;"), 3);
        is("3: then there are four", x.count(1), 4);
        is("3: no room for a fifth", Checks.tell(x, "k011;"), -2000);
        is("3: LINES find room still", Checks.tell(x, "l0011;"), 1);
        is("3: four at once", trained("k011;".repeat(4)), 4);
        is("3: five at once", trained("k011;".repeat(5)), -2020);
    }

    private static void withFaultNothing() {
        String all = "l1231;k1130;h4566;t+;";
        String[] faults = {"x", "l", "l0010;", "h0009;", "k311;", "t1;"};
        for (String fault : faults) {
            OverTheShoulder x = Checks.told("l0011;k0115;h1020;t-;");
            OverTheShoulder twin = Checks.told("l0011;k0115;h1020;t-;");
            Checks.holds("3: a FAULT by " + fault, Checks.tell(x, all + fault) <= -1000);
            Checks.text("3: with one nothing: " + fault, States.whole(x), States.whole(twin));
            for (int what = 11; what <= 16; what++) {
                is("3: nothing is counted by " + fault, x.count(what), twin.count(what));
            }
        }
    }

    private static void withoutFaultAll() {
        OverTheShoulder x = new OverTheShoulder();
        is("3: how many STATEMENTS", Checks.tell(x, "t-;l0012;h0010;k0130;l3599;t+;h5999;k241;"), 8);
        is("3: all LINES", x.count(0), 2);
        is("3: all LOOKERS", x.count(1), 2);
        is("3: of two TILTS the later stands", x.holder(3), 2);
        is("3: of two HOLDERS the later KIND stands", x.holder(0), 5);
        is("3: of two HOLDERS the later FIGURE stands", x.holder(1), 9);
        is("3: of two HOLDERS the later BASE stands", x.holder(2), 99);
        is("3: COLUMN of the later LINE", x.line(1, 0), 3);
        is("3: KIND of the later LINE", x.line(1, 1), 5);
        is("3: FIGURE of the later LINE", x.line(1, 2), 9);
        is("3: SECONDS of the later LINE", x.line(1, 3), 9);
        is("3: SEAT of the later LOOKER", x.looker(1, 0), 2);
        is("3: PACE of the later LOOKER", x.looker(1, 1), 4);
        is("3: NERVE of the later LOOKER", x.looker(1, 2), 1);
        is("3: NERVE of the earlier LOOKER", x.looker(0, 2), 30);
        String[] tilts = {"t-;", "t0;", "t+;", "t0;", "t-;"};
        int[] due = {0, 1, 2, 1, 0};
        for (int i = 0; i < tilts.length; i++) {
            is("3: one STATEMENT", Checks.tell(x, tilts[i]), 1);
            is("3: TILT of " + tilts[i], x.holder(3), due[i]);
        }
        is("3: KIND stays with a TILT", x.holder(0), 5);
        is("3: one STATEMENT of the HOLDER", Checks.tell(x, "h0010;"), 1);
        is("3: TILT stays with a HOLDER", x.holder(3), 0);
    }
}
