/** Promises 61 and 62: MARKS. */
final class MarkTests {
    private static final String FARM = "land 9 by 7;wind 3 1 1;noon 2;kite a at 0 3;kite b at 8 6 size 2 string 2 needs 2 veers 1;"
            + "crop c at 2 3 wants 2;tenant t at 2 6 of a;tenant u at 0 0 of b;";

    private MarkTests() {
    }

    static void promise61and62_allIsTakenBack() {
        KiteLand x = Checks.land(FARM);
        x.hour(2);
        x.walk(1, 4);
        String before = Shot.of(x);
        Checks.gives(x, "mark", x.mark(), 1);
        Checks.due("a MARK changes nothing else", Shot.of(x), before);
        x.hour(3);
        x.walk(0, 2);
        x.cut(1, true);
        x.sell(0, 4);
        x.blow(0, 5, 3);
        x.rule(2);
        x.lease(0, 1);
        x.reap(0);
        Checks.gives(x, "undo", x.undo(), 0);
        Checks.due("all as at the MARK", Shot.of(x), before);
        Checks.refuses(x, 6, "there is none left", () -> x.undo());
    }

    static void promise61and62_countyAndSeasonsAreTakenBack() {
        KiteLand x = Checks.land(FARM);
        Checks.seasons(x, "hour 2;hour 1;");
        String before = Shot.of(x);
        x.mark();
        Checks.county(x, "land 1 by 1;kite x at 0 0;");
        Checks.refuses(x, 6, "no SEASONS for that", () -> x.live(0));
        Checks.gives(x, "undo", x.undo(), 0);
        Checks.due("the old COUNTY", Shot.of(x), before);
        x.mark();
        Checks.seasons(x, "cut a;");
        Checks.gives(x, "the new SEASONS", x.live(0), 1);
        x.undo();
        Checks.gives(x, "the old SEASONS", x.live(0), 2);
        Checks.due("HOUR", x.told(7), 3);
        Checks.gives(x, "a name of the old COUNTY", Checks.seasons(x, "walk b 1;when ripe c;end;"), 2);
    }

    static void promise61and62_threeOneBehindTheOther() {
        KiteLand x = Checks.land(FARM);
        for (int i = 1; i < 4; i++) {
            Checks.gives(x, "mark", x.mark(), i);
            x.hour(i);
        }
        Checks.refuses(x, 4, "a fourth", () -> x.mark());
        int[] hours = {3, 1, 0};
        for (int i = 0; i < 3; i++) {
            Checks.gives(x, "undo", x.undo(), 2 - i);
            Checks.due("HOUR", x.told(7), hours[i]);
        }
        Checks.refuses(x, 6, "no fourth", () -> x.undo());
        Checks.gives(x, "mark anew", x.mark(), 1);
        x.hour(5);
        Checks.gives(x, "a second", x.mark(), 2);
        Checks.gives(x, "back to the second", x.undo(), 1);
        Checks.due("HOUR", x.told(7), 5);
        Checks.gives(x, "back to the first", x.undo(), 0);
        Checks.due("HOUR", x.told(7), 0);
    }

    static void promise61and62_aMarkIsApartFromWhatComesBehind() {
        KiteLand x = new KiteLand();
        x.mark();
        Checks.county(x, FARM);
        Checks.seasons(x, "hour 1;");
        x.mark();
        x.live(0);
        x.undo();
        Checks.due("HOUR", x.told(7), 0);
        x.undo();
        Checks.due("no LAND", x.told(0), 0);
        Checks.refuses(x, 6, "no SEASONS", () -> x.live(0));
    }

    static void promise62_whatIsNoPartOfTheCountyStays() {
        KiteLand x = Checks.land(FARM);
        x.mark();
        Checks.tray(x, 0, 1, 5, 6);
        x.fly(0, 4, 3, 2);
        x.shaded();
        Checks.seasons(x, "hour 1;hour");
        Checks.feed(x, "land 2 by 2;");
        String fraction = Checks.fraction(x);
        x.undo();
        Checks.due("the TRAY", Checks.row(x, 0, 2), "5 6");
        Checks.due("FLY", x.flyAt(0), 2);
        Checks.due("the FRACTION", Checks.fraction(x), fraction);
        Checks.due("the FAULT", x.fault(1), 11);
        Checks.gives(x, "the tape", x.county(12), 0);
        Checks.due("wide", x.told(0), 2);
    }
}
