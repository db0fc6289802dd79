/** Promises 58 to 60: SEASONS that are lived. Without more, winds are east by 2 and NOON is 6. */
final class SeasonTests {
    private static final String MIDST = "land 9 by 7;kite a at 4 3 size 0 string 0;kite b at 0 0 needs 3;crop c at 4 3 wants 3;";

    private SeasonTests() {
    }

    /** A new object of that COUNTY that has lived the SEASONS in so many STEPS. */
    private static KiteLand lives(String county, String seasons, int seed, int steps) {
        KiteLand x = Checks.land(county);
        if (Checks.seasons(x, seasons) < 0) {
            throw new IllegalArgumentException(seasons);
        }
        Checks.gives(x, "live " + seasons, x.live(seed), steps);
        return x;
    }

    private static void lived(KiteLand x, int missed, int hours, int walked, int lost, int left) {
        int[] due = {missed, hours, walked, lost, left};
        for (int what = 0; what < 5; what++) {
            Checks.gives(x, "lived " + what, x.lived(what), due[what]);
        }
    }

    static void promise58and59_eachStep() {
        KiteLand x = lives(MIDST, "hour 2;walk a 2;walk b 3;cut b;hour 3;cut a;mend a;", 0, 7);
        lived(x, 0, 5, 2, 0, 0);
        Checks.due("HOUR", x.told(7), 5);
        Checks.due("GROWN", x.crop(0, 3), 2);
        Checks.due("PURSE", x.kite(0, 5), 2);
        Checks.due("column of a", x.kite(0, 0), 5);
        Checks.due("WALKED", x.kite(0, 6), 1);
        Checks.due("row of b", x.kite(1, 1), 1);
        Checks.due("CUT", x.told(9), 2);
        Checks.gives(x, "again, from how all is now", x.live(0), 7);
        lived(x, 1, 5, 2, 0, 0);
        Checks.due("HOUR", x.told(7), 10);
        Checks.due("column of a", x.kite(0, 0), 6);
    }

    static void promise58and59_whatIsMissed() {
        KiteLand x = lives("land 1 by 1;kite a at 0 0;", "walk a 1;walk a 2;walk a 3;walk a 4;any a;mend a;cut a;cut a;mend a;", 0, 9);
        lived(x, 7, 0, 0, 0, 0);
        x.live(0);
        lived(x, 7, 0, 0, 0, 0);
        Checks.due("WALKED", x.kite(0, 6), 0);
        Checks.due("CUT", x.told(9), 0);
    }

    static void promise58and59_hoursBeyondTheLast() {
        KiteLand x = Checks.land(MIDST);
        for (int i = 0; i < 101; i++) {
            x.hour(i == 0 ? 96 : 99);
        }
        Checks.due("HOUR", x.told(7), 9996);
        Checks.seasons(x, "hour 1;hour 3;hour 1;hour 2;hour 1;hour 1;");
        Checks.gives(x, "live", x.live(0), 6);
        lived(x, 3, 3, 0, 0, 0);
        Checks.due("HOUR", x.told(7), 9999);
    }

    static void promise58and59_draws() {
        // by seed 0: 11197, 58962, 8959: by 8 and 4 and 1 these are west, south, west
        KiteLand x = lives(MIDST, "any a;any a;any a;", 0, 3);
        Checks.due("column", x.kite(0, 0), 2);
        Checks.due("row", x.kite(0, 1), 4);
        lived(x, 0, 0, 3, 0, 0);
        int[] ends = {33, 44, 35, 35, 24, 33};
        for (int seed = 0; seed < ends.length; seed++) {
            KiteLand y = lives(MIDST, "any a;", seed, 1);
            Checks.due("by seed " + seed, y.kite(0, 1) * 10 + y.kite(0, 0), ends[seed]);
        }
        KiteLand last = lives(MIDST, "any a;", 9999, 1);
        Checks.due("by the last seed", last.kite(0, 1) * 10 + last.kite(0, 0), 44);
        // a MISSED step is drawn all the same
        KiteLand z = lives("land 9 by 7;kite a at 0 3 string 0;", "any a;any a;any a;", 0, 3);
        lived(z, 2, 0, 1, 0, 0);
        Checks.due("one south", z.kite(0, 1) * 10 + z.kite(0, 0), 40);
    }

    private static void when(String test, boolean holds) {
        // behind three HOURS the PURSE of a is 3, c is RIPE, it is HOUR 3
        KiteLand x = lives(MIDST + "crop d at 0 0 wants 1;wind 3 2 1;kite e at 1 1 needs 1;kite f at 8 6 needs 2;",
                "hour 3;cut e;when " + test + ";walk a 1;end;walk a 2;", 0, holds ? 5 : 4);
        Checks.due("when " + test, x.kite(0, 1), holds ? 2 : 3);
        Checks.due("behind the end", x.kite(0, 0), 5);
    }

    static void promise58_when() {
        when("purse a < 4", true);
        when("purse a < 3", false);
        when("purse a > 2", true);
        when("purse a > 3", false);
        when("purse a = 3", true);
        when("purse a = 2", false);
        when("purse a = 4", false);
        when("purse b < 1", true);
        when("purse b > 0", false);
        when("ripe c", true);
        when("ripe d", false);
        when("up a", true);
        when("up e", false);
        when("up f", false);
        when("up b", false);
    }

    static void promise58_eightCrops() {
        StringBuilder text = new StringBuilder(MIDST);
        for (char name = 'p'; name < 'w'; name++) {
            text.append("crop c").append(name).append(" at 4 3 wants ").append(name == 'v' ? 1 : 9).append(";");
        }
        KiteLand x = lives(text.toString(), "hour 1;when ripe cv;walk a 1;end;when ripe cu;walk a 1;end;", 0, 4);
        Checks.due("of the last alone", x.kite(0, 1), 2);
        Checks.due("RIPE", x.told(10), 128);
    }

    static void promise58_loops() {
        KiteLand x = lives("land 9 by 7;kite a at 0 0;", "loop 3;walk a 2;loop 2;walk a 3;end;end;walk a 4;", 0, 1 + 3 * 4 + 1);
        Checks.due("column", x.kite(0, 0), 2);
        Checks.due("row", x.kite(0, 1), 6);
        lived(x, 0, 0, 10, 0, 0);
        lived(lives(MIDST, "loop 99;end;", 0, 1), 0, 0, 0, 0, 0);
        lived(lives(MIDST, "loop 99;loop 99;end;end;stop;", 0, 101), 0, 0, 0, 0, 0);
        lived(lives(MIDST, "loop 1;hour 1;end;", 0, 2), 0, 1, 0, 0, 0);
        lived(lives(MIDST, "loop 5;when up b;hour 1;end;end;", 0, 6), 0, 0, 0, 0, 0);
        lived(lives(MIDST, "loop 5;when up a;hour 1;end;end;", 0, 11), 0, 5, 0, 0, 0);
    }

    static void promise58and59_stop() {
        lived(lives(MIDST, "hour 1;stop;hour 1;", 0, 2), 0, 1, 0, 0, 0);
        lived(lives(MIDST, "loop 9;hour 1;when purse a = 3;stop;end;end;hour 3;", 0, 8), 0, 3, 0, 0, 0);
        lived(lives(MIDST, "stop;", 0, 1), 0, 0, 0, 0, 0);
    }

    static void promise58and59_threeHundredStepsAtMost() {
        lived(lives(MIDST, "loop 99;hour 1;hour 1;hour 1;end;hour 1;hour 1;", 0, 300), 0, 299, 0, 0, 0);
        lived(lives(MIDST, "loop 99;hour 1;hour 1;hour 1;end;hour 1;hour 1;hour 1;", 0, 300), 0, 299, 0, 0, 1);
        lived(lives(MIDST, "loop 99;hour 1;hour 1;hour 1;end;hour 1;hour 1;stop;", 0, 300), 0, 299, 0, 0, 1);
        lived(lives(MIDST, "loop 99;hour 1;hour 1;hour 1;end;hour 1;stop;hour 1;", 0, 300), 0, 298, 0, 0, 0);
        lived(lives(MIDST, "loop 99;hour 1;hour 1;hour 1;end;hour 1;loop 1;end;", 0, 300), 0, 298, 0, 0, 0);
        lived(lives(MIDST, "loop 99;hour 1;hour 1;hour 1;end;hour 1;loop 2;loop 1;end;end;", 0, 300), 0, 298, 0, 0, 1);
        lived(lives(MIDST, "loop 99;hour 1;hour 1;hour 1;end;hour 1;when up b;hour 1;end;", 0, 300), 0, 298, 0, 0, 0);
        lived(lives(MIDST, "loop 99;hour 1;hour 1;hour 1;end;hour 1;when up b;end;stop;", 0, 300), 0, 298, 0, 0, 1);
        lived(lives(MIDST, "loop 1;loop 99;hour 1;hour 1;hour 1;end;hour 1;end;", 0, 300), 0, 298, 0, 0, 0);
        lived(lives(MIDST, "loop 2;loop 99;hour 1;hour 1;hour 1;end;hour 1;end;", 0, 300), 0, 298, 0, 0, 1);
        lived(lives(MIDST, "loop 99;loop 99;cut b;mend b;end;end;", 0, 300), 0, 0, 0, 0, 1);
    }

    static void promise59_kitesCutByHoursAlone() {
        String crossed = "land 9 by 7;kite a at 0 3 string 6;kite b at 2 1 string 6 veers 2;";
        lived(lives(crossed, "hour 2;mend a;mend b;hour 1;mend a;hour 1;cut a;", 0, 7), 0, 4, 0, 4, 0);
        lived(lives(crossed, "cut a;hour 3;", 0, 2), 0, 3, 0, 0, 0);
        KiteLand x = lives(crossed, "hour 1;loop 99;walk a 3;walk a 1;walk a 1;walk a 3;end;", 0, 300);
        lived(x, 0, 1, 298, 2, 1);
        x.live(0);
        lived(x, 0, 1, 298, 0, 1);
        Checks.seasons(x, "stop;");
        x.live(0);
        lived(x, 0, 0, 0, 0, 0);
    }

    static void promise58_wrongNumbers() {
        KiteLand x = Checks.land(MIDST);
        Checks.refuses(x, 6, "no SEASONS", () -> x.live(0));
        Checks.refuses(x, 1, "seed -1 is asked first", () -> x.live(-1));
        Checks.refuses(x, 1, "seed 10,000 is asked first", () -> x.live(10000));
        Checks.seasons(x, "hour 1;");
        Checks.refuses(x, 1, "seed -1", () -> x.live(-1));
        Checks.refuses(x, 1, "seed 10,000", () -> x.live(10000));
        Checks.gives(x, "seed 9,999", x.live(9999), 1);
        Checks.county(x, MIDST);
        Checks.refuses(x, 6, "none for a new COUNTY", () -> x.live(0));
    }

    static void promise59_livedIsOfTheLatest() {
        KiteLand x = Checks.land(MIDST);
        Checks.refuses(x, 6, "there was none", () -> x.lived(0));
        Checks.refuses(x, 1, "what is asked first", () -> x.lived(5));
        Checks.refuses(x, 1, "what -1", () -> x.lived(-1));
        x.mark();
        Checks.seasons(x, "hour 3;walk a 1;mend a;");
        x.live(0);
        lived(x, 1, 3, 1, 0, 0);
        x.live(-1);
        x.mean(0, 0, 3);
        Checks.seasons(x, "hour 2;");
        x.hour(9);
        x.undo();
        Checks.county(x, "");
        x.live(0);
        lived(x, 1, 3, 1, 0, 0);
        Checks.refuses(x, 1, "what 5", () -> x.lived(5));
    }

    static void promise60_mean() {
        // by seeds 0 to 5 a goes west, south, east, east, north, west; the crop is in the east
        KiteLand x = Checks.land("land 3 by 3;kite a at 1 1 size 0 string 0;kite b at 0 0 size 0 string 0;"
                + "crop c at 2 1 wants 9;crop d at 0 0 wants 9;");
        x.hour(2);
        Checks.seasons(x, "any a;hour 3;");
        String before = Shot.of(x).replace("0/1 fault", " fault");
        long[][] due = {{0, 1, 0, 1}, {0, 3, 1, 1}, {0, 4, 3, 2}, {0, 5, 6, 5}, {2, 2, 3, 1}, {5, 1, 0, 1}};
        for (long[] one : due) {
            Checks.gives(x, "mean", x.mean(0, (int) one[0], (int) one[1]));
            Checks.due("mean from " + one[0] + " of " + one[1], Checks.fraction(x), one[2] + "/" + one[3]);
            Checks.due("all is as it was", Shot.of(x).replace(Checks.fraction(x) + " fault", " fault"), before);
        }
        Checks.gives(x, "of b", x.mean(1, 9980, 20));
        Checks.due("with what it has now", Checks.fraction(x), "5/1");
        Checks.gives(x, "the last seed", x.mean(1, 9999, 1));
        Checks.refuses(x, 6, "lived() is of live() alone", () -> x.lived(0));
    }

    static void promise60_wrongNumbers() {
        KiteLand x = Checks.land(MIDST);
        Checks.refusesFlag(x, 6, "no SEASONS", () -> x.mean(0, 0, 1));
        Checks.refusesFlag(x, 1, "kite 2 is asked first", () -> x.mean(2, 0, 1));
        Checks.seasons(x, "hour 1;");
        Checks.refusesFlag(x, 1, "kite 2", () -> x.mean(2, 0, 1));
        Checks.refusesFlag(x, 1, "kite -1", () -> x.mean(-1, 0, 1));
        Checks.refusesFlag(x, 1, "seed -1", () -> x.mean(0, -1, 1));
        Checks.refusesFlag(x, 1, "seed 10,000", () -> x.mean(0, 10000, 1));
        Checks.refusesFlag(x, 1, "the last above 9,999", () -> x.mean(0, 9999, 2));
        Checks.refusesFlag(x, 1, "the last far above", () -> x.mean(0, Integer.MAX_VALUE, 20));
        Checks.refusesFlag(x, 1, "many 0", () -> x.mean(0, 0, 0));
        Checks.refusesFlag(x, 1, "many -1", () -> x.mean(0, 0, -1));
        Checks.refusesFlag(x, 1, "many 21", () -> x.mean(0, 0, 21));
        Checks.gives(x, "many 20", x.mean(0, 9980, 20));
    }
}
