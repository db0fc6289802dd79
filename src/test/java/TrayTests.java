/** Promises 1 to 8: a new object, STATUS, the FRACTION, TRAYS. */
final class TrayTests {
    private TrayTests() {
    }

    static void promise01_aNewObjectIsEmpty() {
        KiteLand x = new KiteLand();
        Checks.due("status", x.status(), 0);
        Checks.due("fraction", Checks.fraction(x), "0/1");
        Checks.due("fault", x.fault(0), -1);
        Checks.due("place of the fault", x.fault(1), -1);
        int[] due = {0, 0, 0, 0, 0, 6, 0, 0, 0, 0, 0};
        for (int what = 0; what < due.length; what++) {
            Checks.gives(x, "told " + what, x.told(what), due[what]);
        }
        for (int hour = 0; hour < 12; hour++) {
            Checks.gives(x, "direction", x.wind(hour, 0), 2);
            Checks.gives(x, "force", x.wind(hour, 1), 2);
        }
        for (int tray = 0; tray < 4; tray++) {
            int missing = tray;
            Checks.refuses(x, 2, "read", () -> x.read(missing, 0));
        }
        Checks.refuses(x, 1, "county of an empty tape", () -> x.county(1));
        Checks.refuses(x, 6, "live", () -> x.live(0));
        Checks.refuses(x, 6, "lived", () -> x.lived(0));
        Checks.refuses(x, 6, "flyAt", () -> x.flyAt(0));
        Checks.refuses(x, 6, "undo", () -> x.undo());
        Checks.refuses(x, 1, "kite", () -> x.kite(0, 0));
        Checks.refuses(x, 1, "crop", () -> x.crop(0, 0));
        Checks.refuses(x, 1, "tenant", () -> x.tenant(0, 0));
    }

    static void promise01_objectsAreApart() {
        KiteLand x = Checks.land("land 3 by 2;kite a at 0 0;");
        Checks.tray(x, 0, 0, 5);
        KiteLand y = new KiteLand();
        Checks.due("wide of the other", y.told(0), 0);
        Checks.due("kites of the one", x.told(2), 1);
        y.read(0, 0);
        Checks.due("tray of the other", y.status(), 2);
    }

    static void promise02_statusIsOfTheLatestCall() {
        KiteLand x = new KiteLand();
        x.told(11);
        Checks.due("status", x.status(), 1);
        Checks.due("status again", x.status(), 1);
        x.told(0);
        Checks.due("status behind a good call", x.status(), 0);
    }

    static void promise02_someCallsHaveNone() {
        KiteLand x = new KiteLand();
        x.told(11);
        x.top();
        Checks.due("status behind top", x.status(), 1);
        x.bottom();
        Checks.due("status behind bottom", x.status(), 1);
        x.fault(0);
        x.fault(9);
        Checks.due("status behind fault", x.status(), 1);
        for (int i = 0; i < 46; i++) {
            x.feed(0, 0, 0, 0, 0);
        }
        Checks.due("status behind feed", x.status(), 1);
    }

    static void promise02_eachStatusIsTold() {
        KiteLand x = new KiteLand();
        x.told(-1);
        Checks.due("a number that can't be", x.status(), 1);
        x.read(0, 0);
        Checks.due("a MISSING tray", x.status(), 2);
        x.tray(0, 0, 1);
        x.tray(1, 1, 1);
        x.read(0, 1);
        Checks.due("no such place", x.status(), 3);
        x.pour(0, 0, 1, 0, 1);
        Checks.due("unlike sorts", x.status(), 8);
        x.mark();
        x.mark();
        x.mark();
        x.mark();
        Checks.due("one too many", x.status(), 4);
        x.cover(0, 1, 0);
        Checks.due("a number in a TRAY that can't be", x.status(), 5);
        x.telling();
        Checks.due("none such", x.status(), 6);
        Checks.county(x, "kite");
        Checks.due("a FAULT", x.status(), 9);
        Checks.county(x, "land 1 by 1;kite a at 0 0;");
        x.cut(0, false);
        Checks.due("it can't be", x.status(), 7);
    }

    static void promise03and04_theFractionIsWithoutACommonDivisor() {
        // by day 9 FIELDS in 11 HOURS, 1 at NOON: 100 / 12
        KiteLand x = Checks.land("land 9 by 7;kite a at 2 3;");
        Checks.gives(x, "shaded", x.shaded());
        Checks.due("top", x.top(), 25);
        Checks.due("bottom", x.bottom(), 3);
        Checks.refusesFlag(x, 6, "share of nothing", () -> x.share(0));
        Checks.due("fraction as it was", Checks.fraction(x), "25/3");
        x.cut(0, true);
        Checks.gives(x, "shaded", x.shaded());
        Checks.due("0 is 0 by 1", Checks.fraction(x), "0/1");
    }

    static void promise05_aTrayIsARowOfZeros() {
        KiteLand x = new KiteLand();
        for (int sort = 0; sort < 4; sort++) {
            Checks.gives(x, "tray", x.tray(sort, sort, 60));
            Checks.gives(x, "first", x.read(sort, 0), 0);
            Checks.gives(x, "last", x.read(sort, 59), 0);
        }
        x.write(0, 0, 7);
        x.write(0, 5, 8);
        Checks.gives(x, "tray anew", x.tray(0, 3, 6));
        Checks.gives(x, "0 again", x.read(0, 0), 0);
        Checks.gives(x, "0 again, too", x.read(0, 5), 0);
        Checks.refuses(x, 3, "behind its end", () -> x.read(0, 6));
        Checks.gives(x, "an empty tray", x.tray(0, 0, 0));
        Checks.refuses(x, 3, "no place", () -> x.read(0, 0));
    }

    static void promise05_wrongNumbers() {
        KiteLand x = new KiteLand();
        Checks.tray(x, 0, 1, 300);
        Checks.refusesFlag(x, 1, "tray -1", () -> x.tray(-1, 0, 1));
        Checks.refusesFlag(x, 1, "tray 4", () -> x.tray(4, 0, 1));
        Checks.refusesFlag(x, 1, "sort -1", () -> x.tray(0, -1, 1));
        Checks.refusesFlag(x, 1, "sort 4", () -> x.tray(0, 4, 1));
        Checks.refusesFlag(x, 1, "many -1", () -> x.tray(0, 0, -1));
        Checks.refusesFlag(x, 1, "many 61", () -> x.tray(0, 0, 61));
        Checks.refusesFlag(x, 1, "tray 1 stays MISSING", () -> x.tray(1, 0, 61));
    }

    static void promise06_aNumberIsCutToItsSort() {
        KiteLand x = new KiteLand();
        long[][] cuts = {
            {0, 127, 127}, {0, 128, -128}, {0, 255, -1}, {0, 256, 0}, {0, -129, 127},
            {1, 32767, 32767}, {1, 32768, -32768}, {1, 65536 + 5, 5}, {1, -32769, 32767},
            {2, 2147483647L, 2147483647L}, {2, 2147483648L, -2147483648L}, {2, (1L << 32) + 3, 3},
            {3, Long.MIN_VALUE, Long.MIN_VALUE}, {3, Long.MAX_VALUE, Long.MAX_VALUE}, {3, -1, -1}};
        for (long[] cut : cuts) {
            x.tray(2, (int) cut[0], 3);
            Checks.gives(x, "write", x.write(2, 1, cut[1]));
            Checks.gives(x, cut[1] + " in sort " + cut[0], x.read(2, 1), cut[2]);
            Checks.gives(x, "beside it", x.read(2, 0), 0);
            Checks.gives(x, "behind it", x.read(2, 2), 0);
        }
    }

    static void promise06_wrongPlaces() {
        KiteLand x = new KiteLand();
        Checks.refusesFlag(x, 1, "tray -1", () -> x.write(-1, 0, 1));
        Checks.refusesFlag(x, 1, "tray 4", () -> x.write(4, -1, 1));
        Checks.refusesFlag(x, 2, "a MISSING tray", () -> x.write(0, 0, 1));
        Checks.refusesFlag(x, 2, "a MISSING tray, a place below 0", () -> x.write(0, -1, 1));
        x.tray(0, 0, 2);
        Checks.refusesFlag(x, 3, "place 2 of 2", () -> x.write(0, 2, 1));
        Checks.refusesFlag(x, 3, "a place below 0", () -> x.write(0, -1, 1));
        Checks.refusesFlag(x, 3, "a place far away", () -> x.write(0, Integer.MAX_VALUE, 1));
        Checks.refusesFlag(x, 3, "a place far below", () -> x.write(0, Integer.MIN_VALUE, 1));
    }

    static void promise07_readTellsWhatWasWritten() {
        KiteLand x = new KiteLand();
        Checks.tray(x, 3, 3, 4, -1, 6);
        x.told(99);
        Checks.gives(x, "first", x.read(3, 0), 4);
        Checks.gives(x, "-1 with STATUS 0", x.read(3, 1), -1);
        Checks.gives(x, "last", x.read(3, 2), 6);
        Checks.refuses(x, 1, "tray -1", () -> x.read(-1, 0));
        Checks.refuses(x, 1, "tray 4", () -> x.read(4, 0));
        Checks.refuses(x, 2, "a MISSING tray", () -> x.read(0, 0));
        Checks.refuses(x, 3, "a place below 0", () -> x.read(3, -1));
        Checks.refuses(x, 3, "a place behind", () -> x.read(3, 3));
    }

    static void promise08_numbersAreTakenAsTheyWere() {
        KiteLand x = new KiteLand();
        Checks.tray(x, 0, 2, 1, 2, 3, 4, 5);
        Checks.tray(x, 1, 2, 9, 9, 9, 9);
        Checks.gives(x, "to another", x.pour(0, 1, 1, 2, 2));
        Checks.due("the other", Checks.row(x, 1, 4), "9 9 2 3");
        Checks.due("the one", Checks.row(x, 0, 5), "1 2 3 4 5");
        Checks.gives(x, "onward in its own", x.pour(0, 0, 0, 1, 4));
        Checks.due("onward", Checks.row(x, 0, 5), "1 1 2 3 4");
        Checks.gives(x, "backward in its own", x.pour(0, 1, 0, 0, 4));
        Checks.due("backward", Checks.row(x, 0, 5), "1 2 3 4 4");
        Checks.gives(x, "nothing at the end", x.pour(0, 5, 1, 4, 0));
        Checks.gives(x, "all of it", x.pour(1, 0, 1, 0, 4));
        Checks.due("all as it was", Checks.row(x, 1, 4), "9 9 2 3");
    }

    static void promise08_whatIsAskedFirst() {
        KiteLand x = new KiteLand();
        x.tray(0, 0, 3);
        x.tray(1, 1, 3);
        x.tray(3, 0, 2);
        Checks.refusesFlag(x, 1, "from -1", () -> x.pour(-1, 0, 0, 0, 1));
        Checks.refusesFlag(x, 1, "from 4", () -> x.pour(4, 0, 0, 0, 1));
        Checks.refusesFlag(x, 1, "to -1", () -> x.pour(0, 0, -1, 0, 1));
        Checks.refusesFlag(x, 1, "to 4", () -> x.pour(0, 0, 4, 0, 1));
        Checks.refusesFlag(x, 1, "place below 0 ahead of MISSING", () -> x.pour(2, -1, 0, 0, 1));
        Checks.refusesFlag(x, 1, "at below 0", () -> x.pour(0, 0, 1, -1, 1));
        Checks.refusesFlag(x, 1, "many below 0", () -> x.pour(0, 0, 1, 0, -1));
        Checks.refusesFlag(x, 2, "from a MISSING one", () -> x.pour(2, 9, 1, 0, 1));
        Checks.refusesFlag(x, 2, "to a MISSING one", () -> x.pour(0, 9, 2, 0, 1));
        Checks.refusesFlag(x, 8, "unlike sorts ahead of places", () -> x.pour(0, 9, 1, 0, 1));
        Checks.refusesFlag(x, 3, "too few in the one", () -> x.pour(0, 2, 3, 0, 2));
        Checks.refusesFlag(x, 3, "too few in the other", () -> x.pour(0, 0, 3, 1, 2));
        Checks.refusesFlag(x, 3, "a place behind the end", () -> x.pour(0, 4, 3, 0, 0));
        Checks.refusesFlag(x, 3, "far too many", () -> x.pour(0, 1, 3, 1, Integer.MAX_VALUE));
        Checks.refusesFlag(x, 3, "a place far away", () -> x.pour(0, Integer.MAX_VALUE, 3, 0, 1));
        Checks.refusesFlag(x, 3, "at far away", () -> x.pour(0, 0, 3, Integer.MAX_VALUE, Integer.MAX_VALUE));
    }
}
