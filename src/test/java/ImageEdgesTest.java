import java.util.Arrays;

/** Each bound of a new object, THE IMAGE and count (promises 1, 33, 34 and 35). */
public final class ImageEdgesTest {
    private ImageEdgesTest() {
    }

    public static void main(String[] args) {
        newObject();
        noImage();
        imageOfNothing();
        imageOfAll();
        imageIsTheNewest();
        imageStays();
        imageIsNotWhatComesThen();
        notInTheImage();
        countOfNothing();
        countOfAll();
        countOfColumns();
        countOfLettersAndRow();
        countOfOther();
        objectsApart();
        Checks.end("ImageEdgesTest");
    }

    private static void is(String what, long got, long due) {
        Checks.equal(what, got, due);
    }

    private static OverTheShoulder told(String train) {
        return Checks.told(train);
    }

    private static void newObject() {
        OverTheShoulder x = new OverTheShoulder();
        is("1: no LINES", x.count(0), 0);
        is("1: no LINE 0", x.line(0, 0), -1);
        is("1: nobody looks", x.count(1), 0);
        is("1: no LOOKER 0", x.looker(0, 0), -1);
        is("1: nobody is NOTICED", x.page(), 0);
        is("1: no letters", x.train(), -1000);
        is("1: no image", x.restore(), -3);
    }

    private static void noImage() {
        OverTheShoulder x = told("l0011;k1130;");
        is("34: there is none", x.restore(), -3);
        is("34: LINES stay", x.count(0), 1);
        is("34: LOOKERS stay", x.count(1), 1);
        is("34: none by asking", x.restore(), -3);
        is("34: counted each time", x.count(13), 2);
        is("33: now there is", x.image(), 1);
        is("34: so it is RESTORED", x.restore(), 1);
    }

    private static void imageOfNothing() {
        OverTheShoulder x = new OverTheShoulder();
        is("33: no LINES", x.image(), 0);
        Checks.tell(x, "l0011;k1130;h5999;t+;");
        is("34: no LINES", x.restore(), 0);
        is("34: none are there", x.count(0), 0);
        is("34: nobody looks", x.count(1), 0);
        is("34: KIND as at first", x.holder(0), 0);
        is("34: FIGURE as at first", x.holder(1), 0);
        is("34: BASE as at first", x.holder(2), 30);
        is("34: TILT as at first", x.holder(3), 1);
        is("34: no LINE 0", x.line(0, 0), -1);
        is("34: there is room for eight", Checks.tell(x, "l0011;".repeat(8)), 8);
        is("34: there is room for four", Checks.tell(x, "k1130;".repeat(4)), 4);
    }

    private static void imageOfAll() {
        OverTheShoulder x = States.made(States.CROWDED);
        OverTheShoulder twin = States.made(States.CROWDED);
        is("33: eight LINES", x.image(), 8);
        twin.image();
        x.page();
        x.tilt(1);
        x.base(99);
        for (int looker = 0; looker < 4; looker++) {
            x.sit(looker, 2 - x.looker(looker, 0));
            x.read(looker, 1);
            x.away(looker, 60);
        }
        is("34: eight LINES", x.restore(), 8);
        Checks.text("34: all is as it was", States.whole(x), States.whole(twin));
    }

    private static void imageIsTheNewest() {
        OverTheShoulder x = told("l0011;k1130;");
        is("33: the first", x.image(), 1);
        x.read(0, 0);
        Checks.tell(x, "l0021;");
        is("33: the second", x.image(), 2);
        x.page();
        is("34: the newest", x.restore(), 2);
        is("34: READ as in the newest", x.looker(0, 6), 1);
    }

    private static void imageStays() {
        OverTheShoulder x = told("l0011;l0021;k1130;");
        x.image();
        for (int time = 0; time < 3; time++) {
            is("34: the first LINE is not READ, time " + time, x.read(0, 0), 0);
            is("34: the second is not READ, time " + time, x.read(0, 0), 1);
            is("34: once more", x.restore(), 2);
        }
    }

    private static void imageIsNotWhatComesThen() {
        OverTheShoulder x = told("l0011;k1130;h1220;t-;");
        x.image();
        Checks.tell(x, "l3594;l0013;k0102;");
        x.read(1, 0);
        x.read(1, 0);
        x.away(1, 60);
        x.restore();
        is("34: the LINE is no more", x.line(1, 0), -1);
        is("34: the LOOKER is no more", x.looker(1, 0), -1);
        is("34: others come", Checks.tell(x, "l1232;k2430;"), 2);
        int[] line = {1, 2, 3, 2};
        for (int what = 0; what < 4; what++) {
            is("34: the other LINE's " + what, x.line(1, what), line[what]);
        }
        int[] looker = {2, 4, 30, 0, 0, 0, 0, 0, 26, 0};
        for (int what = 0; what < 10; what++) {
            is("34: the other LOOKER's " + what, x.looker(1, what), looker[what]);
        }
        x.image();
        x.read(1, 1);
        x.restore();
        is("34: the other LINE stays now", x.line(1, 2), 3);
        is("34: the other's PACE stays now", x.looker(1, 1), 4);
        is("34: nothing is READ by the other", x.looker(1, 6), 0);
    }

    private static void notInTheImage() {
        OverTheShoulder x = told("l0011;k1130;");
        x.row(1);
        x.feed('t');
        x.holder(9);
        x.image();
        x.row(0);
        x.feed('+');
        x.feed(';');
        x.holder(9);
        x.restore();
        is("33: the letters are not in it", x.count(8), 3);
        is("33: the ROW is not in it", x.count(9), 2);
        is("33: REFUSALS are not in it", x.count(12), 2);
        is("33: the letters are a TRAIN", x.train(), 1);
        is("33: the ROW can't be", x.judge(0), 0);
        x.restore();
        is("33: no letters come with it", x.count(8), 0);
        is("33: no ROW comes with it", x.count(9), 0);
        is("33: TILT does", x.holder(3), 1);
    }

    private static void countOfNothing() {
        OverTheShoulder x = new OverTheShoulder();
        for (int what = 0; what <= 9; what++) {
            is("35: nothing there, " + what, x.count(what), 0);
        }
        for (int what = 11; what <= 16; what++) {
            is("35: no REFUSALS, " + what, x.count(what), 0);
        }
    }

    private static void countOfAll() {
        OverTheShoulder x = told("l0491;l0491;l1491;l1491;l2491;l2491;l3491;l3491;k111;k111;k111;k111;h0010;");
        for (int looker = 0; looker < 4; looker++) {
            is("35: CUT OFF are " + looker, x.count(3), looker);
            x.away(looker, 60);
        }
        int[] due = {8, 4, 112, 4, 2, 2, 2, 2, 0, 0};
        for (int what = 0; what <= 9; what++) {
            is("35: all places taken, " + what, x.count(what), due[what]);
        }
    }

    private static void countOfColumns() {
        for (int column = 0; column <= 3; column++) {
            OverTheShoulder x = told(("l" + column + "011;").repeat(8));
            for (int other = 0; other <= 3; other++) {
                is("35: LINES of COLUMN " + other, x.count(4 + other), other == column ? 8 : 0);
            }
        }
    }

    private static void countOfLettersAndRow() {
        OverTheShoulder x = States.made(States.FULL);
        is("35: 96 letters", x.count(8), 96);
        is("35: 12 in the ROW", x.count(9), 12);
        x.train();
        is("35: no letters", x.count(8), 0);
        x.judge(0);
        is("35: none in the ROW", x.count(9), 0);
    }

    private static void countOfOther() {
        OverTheShoulder x = States.made(States.CROWDED);
        for (int what : new int[] {-1, 10, 17, -2, 18, 100, Integer.MIN_VALUE, Integer.MAX_VALUE}) {
            is("35: another what, " + what, x.count(what), -9);
        }
        Checks.holds("35: no REFUSALS by it", Arrays.equals(States.refusals(x), new long[] {2, 1, 1, 1, 0, 1}));
    }

    private static void objectsApart() {
        OverTheShoulder one = States.made(States.CROWDED);
        OverTheShoulder other = new OverTheShoulder();
        one.image();
        is("1: another object has no LINES", other.count(0), 0);
        is("1: another object has no letters", other.count(8), 0);
        is("1: another object has no image", other.restore(), -3);
        is("1: the first has its own", one.count(13), 1);
    }
}
