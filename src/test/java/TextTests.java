/** Promises 9 to 17: the tape, a COUNTY, what it tells. */
final class TextTests {
    private static final String WHOLE = "land 9 by 7; wind 0 7 3; wind 11 0 0; wind 0 4 1; noon 0; law 2;"
            + "kite a at 8 6 size 2 string 9 needs 3 veers 7; kite bb at 0 0; crop c at 1 2 wants 99;"
            + "crop dd at 8 6 wants 1; tenant t at 3 4 of bb;";

    private TextTests() {
    }

    static void promise09_theHighestByteIsFirst() {
        KiteLand x = new KiteLand();
        // "land 2 by 3;" and eight blanks
        Checks.due("feed", x.feed(0x6c616e64, 0x20322062, 0x7920333b, 0x20202020, 0x20202020), 20);
        Checks.gives(x, "county", x.county(20), 0);
        Checks.due("wide", x.told(0), 2);
        Checks.due("deep", x.told(1), 3);
        Checks.due("feed anew", x.feed(0xff000000, 0, 0, 0, 0), 20);
        Checks.due("a sign above 127", x.county(1), -1);
        Checks.due("its fault", x.fault(0), 1);
    }

    static void promise09_nineHundredBytesAtMost() {
        KiteLand x = new KiteLand();
        for (int i = 1; i <= 45; i++) {
            Checks.due("feed", x.feed(0x20202020, 0x20202020, 0x20202020, 0x20202020, 0x20202020), 20 * i);
        }
        Checks.due("one feed more", x.feed(1, 2, 3, 4, 5), -1);
        Checks.gives(x, "all 900 as blanks", x.county(900), 0);
        Checks.due("an empty tape", x.feed(1, 2, 3, 4, 5), 20);
    }

    static void promise10_aCountyIsTaken() {
        KiteLand x = new KiteLand();
        int n = Checks.feed(x, WHOLE);
        Checks.gives(x, "county", x.county(n), 2);
        Checks.refuses(x, 1, "the tape is empty then", () -> x.county(1));
        x.hour(13);
        x.cut(1, true);
        Checks.seasons(x, "hour 1;");
        Checks.gives(x, "another one", Checks.county(x, "land 1 by 1;kite b at 0 0;kite c at 0 0;kite d at 0 0;"), 3);
        Checks.due("HOUR", x.told(7), 0);
        Checks.due("CUT", x.told(9), 0);
        Checks.due("NOON", x.told(5), 6);
        Checks.due("LAW", x.told(6), 0);
        Checks.due("CROPS", x.told(3), 0);
        Checks.due("TENANTS", x.told(4), 0);
        Checks.due("WIND", x.wind(0, 0) * 10 + x.wind(0, 1), 22);
        Checks.refuses(x, 6, "its SEASONS", () -> x.live(0));
    }

    static void promise10_allOfTheOldOneIsGone() {
        KiteLand x = Checks.land("land 3 by 1;kite a at 0 0 size 2 string 0;crop c at 0 0 wants 9;tenant t at 0 0 of a;");
        x.hour(3);
        x.walk(0, 2);
        Checks.due("PURSE", x.kite(0, 5), 6);
        Checks.county(x, "land 3 by 1;kite a at 0 0 string 0;crop c at 0 0 wants 9;tenant t at 0 0 of a;");
        Checks.due("PURSE", x.kite(0, 5), 0);
        Checks.due("WALKED", x.kite(0, 6), 0);
        Checks.due("SIZE", x.kite(0, 2), 1);
        Checks.due("GROWN", x.crop(0, 3), 0);
        Checks.due("TILLED", x.tenant(0, 3), 0);
        Checks.due("IDLE", x.tenant(0, 4), 0);
    }

    static void promise10_whatWasTriedLeavesNoTrace() {
        String old = "land 9 by 7;noon 3;law 1;wind 0 2 3;kite a at 0 3 size 0 string 6 needs 2 veers 0;"
                + "kite b at 2 1 size 2 string 6 veers 2;crop c at 8 0 wants 1;crop d at 4 3 wants 2;tenant t at 6 6 of a;"
                + "tenant u at 8 3 of b;";
        KiteLand x = Checks.land(old);
        String fresh = "land 9 by 7;kite a at 1 1;kite b at 2 2;crop c at 3 3 wants 4;crop d at 4 4 wants 5;"
                + "tenant t at 5 5 of a;tenant u at 6 6 of b;";
        String due = Shot.of(Checks.land(fresh));
        x.purseIn(0, 40);
        Checks.county(x, fresh);
        Checks.due("behind purseIn", Shot.of(x), due);
        Checks.county(x, old);
        x.cutIn(0);
        Checks.county(x, fresh);
        Checks.due("behind cutIn", Shot.of(x), due);
        Checks.county(x, old);
        x.fly(1, 0, 0, 5);
        Checks.county(x, fresh);
        Checks.due("WALKED behind fly", x.kite(1, 6), 0);
        Checks.county(x, old);
        x.ripe(1);
        Checks.county(x, fresh);
        Checks.due("HOUR behind ripe", x.told(7), 0);
        Checks.county(x, old + "crop e at 0 0 wants 0;");
        x.county(0);
        Checks.due("noon", x.told(5), 6);
        Checks.county(x, "land 1 by 1;noon 2;law 2;");
        Checks.gives(x, "noon and law once more", Checks.county(x, "land 1 by 1;noon 2;law 2;"), 0);
    }

    static void promise10_nineHundredBytes() {
        StringBuilder text = new StringBuilder("land 9 by 7;");
        while (text.length() < 900 - 12) {
            text.append(' ');
        }
        KiteLand x = new KiteLand();
        Checks.gives(x, "the last of them ends a PART", Checks.county(x, text + "wind 11 0 3;"), 0);
        Checks.due("WIND", x.wind(11, 1), 3);
        Checks.due("a NUMBER is the last", Checks.county(x, text + "wind 11 0  3"), -1);
        Checks.due("its FAULT is behind it", x.fault(0) * 1000 + x.fault(1), 2900);
        Checks.due("a WORD is the last", Checks.county(x, text + "law 1;kite z"), -1);
        Checks.due("its FAULT is behind it, too", x.fault(0) * 1000 + x.fault(1), 2900);
        Checks.due("nothing but digits", Checks.county(x, "1".repeat(900)), -1);
        Checks.due("its FAULT", x.fault(0) * 1000 + x.fault(1), 1000);
        Checks.due("nothing but letters", Checks.county(x, "z".repeat(900)), -1);
        Checks.due("its FAULT", x.fault(0) * 1000 + x.fault(1), 2000);
    }

    static void promise10_theFirstBytesAlone() {
        KiteLand x = new KiteLand();
        Checks.feed(x, "land 2 by 3; kite ");
        Checks.gives(x, "county", x.county(12), 0);
        Checks.due("deep", x.told(1), 3);
        Checks.gives(x, "none at all", x.county(0), 0);
        Checks.due("wide", x.told(0), 0);
        Checks.due("deep", x.told(1), 0);
    }

    static void promise10_wrongLengthsAndFaults() {
        KiteLand x = Checks.land(WHOLE);
        Checks.seasons(x, "hour 1;");
        x.hour(2);
        int n = Checks.feed(x, "land 2 by 3;");
        Checks.refuses(x, 1, "below 0", () -> x.county(-1));
        Checks.refuses(x, 1, "more than the tape has", () -> x.county(21));
        Checks.refuses(x, 1, "far more", () -> x.county(Integer.MAX_VALUE));
        Checks.gives(x, "the tape is as it was", x.county(n), 0);
        x.mark();
        Checks.county(x, WHOLE);
        Checks.seasons(x, "hour 1;");
        x.hour(2);
        String before = Shot.of(x).replace("fault 0 -1", "fault 2 12");
        Checks.due("a FAULT", Checks.county(x, "land 2 by 3;x"), -1);
        Checks.due("its STATUS", x.status(), 9);
        Checks.due("all but the fault", Shot.of(x), before);
        Checks.gives(x, "SEASONS stay", x.live(0), 1);
        Checks.refuses(x, 1, "the tape is empty then", () -> x.county(1));
        Checks.gives(x, "the MARK stays", x.undo(), 0);
        Checks.due("wide", x.told(0), 2);
    }

    static void promise11_seasonsAreTaken() {
        KiteLand x = Checks.land(WHOLE);
        Checks.gives(x, "a STEP", Checks.seasons(x, "hour 3;"), 1);
        Checks.gives(x, "each sort", Checks.seasons(x, "hour 1;walk a 4;cut bb;mend bb;any a;when purse a<9;when ripe c;"
                + "when up bb;end;end;end;loop 99;end;stop;when purse a > 0;end;when purse bb = 9999;end;"), 12);
        Checks.gives(x, "none", x.seasons(0), 0);
        Checks.refuses(x, 1, "the tape is empty then", () -> x.seasons(1));
    }

    static void promise11_wrongLengths() {
        KiteLand x = Checks.land(WHOLE);
        StringBuilder blanks = new StringBuilder("hour 2;");
        while (blanks.length() < 320) {
            blanks.append('\n');
        }
        Checks.feed(x, blanks.toString());
        Checks.refuses(x, 1, "below 0", () -> x.seasons(-1));
        Checks.refuses(x, 1, "above 300", () -> x.seasons(301));
        Checks.refuses(x, 1, "more than the tape has", () -> x.seasons(321));
        Checks.gives(x, "300", x.seasons(300), 1);
        Checks.feed(x, "hour 1;");
        Checks.refuses(x, 1, "more than the tape has", () -> x.seasons(21));
    }

    static void promise11_aFaultLeavesNoTrace() {
        KiteLand x = Checks.land(WHOLE);
        Checks.seasons(x, "when purse a < 9;hour 1;loop 3;hour 1;");
        Checks.due("an open when", x.fault(0), 2);
        Checks.gives(x, "nothing is open", Checks.seasons(x, "when up bb;stop;end;hour 1;"), 3);
        Checks.due("an end too many", Checks.seasons(x, "end;"), -1);
        Checks.gives(x, "bb is UP, and stops", x.live(0), 2);
        x.cut(1, true);
        Checks.gives(x, "bb is not", x.live(0), 2);
        Checks.due("HOUR", x.told(7), 1);
    }

    static void promise11_theOldOnesStayWithAFault() {
        KiteLand x = Checks.land(WHOLE);
        Checks.seasons(x, "hour 3;hour 2;");
        String before = Shot.of(x).replace("fault 0 -1", "fault 4 5");
        Checks.due("a FAULT", Checks.seasons(x, "hour 4;"), -1);
        Checks.due("its STATUS", x.status(), 9);
        Checks.due("all but the fault", Shot.of(x), before);
        Checks.refuses(x, 1, "the tape is empty then", () -> x.seasons(1));
        Checks.gives(x, "the old ones", x.live(0), 2);
        Checks.due("HOURS", x.lived(1), 5);
    }

    static void promise13_told() {
        KiteLand x = Checks.land(WHOLE);
        int[] due = {9, 7, 2, 2, 1, 0, 2, 0, 2, 0, 0};
        for (int what = 0; what < due.length; what++) {
            Checks.gives(x, "told " + what, x.told(what), due[what]);
        }
        x.hour(1);
        Checks.gives(x, "HOUR", x.told(7), 1);
        x.blow(1, 0, 3);
        Checks.gives(x, "both UP now", x.told(8), 3);
        x.cut(1, true);
        Checks.gives(x, "UP", x.told(8), 1);
        Checks.gives(x, "CUT", x.told(9), 2);
        x.cut(0, true);
        Checks.gives(x, "all CUT", x.told(9), 3);
        Checks.refuses(x, 1, "told -1", () -> x.told(-1));
        Checks.refuses(x, 1, "told 11", () -> x.told(11));
    }

    static void promise13_ripeAndUpAreSets() {
        KiteLand x = Checks.land("land 3 by 1;wind 2 0 1;kite a at 0 0 string 0 needs 2;crop c at 1 0 wants 2;"
                + "crop d at 2 0 wants 1;crop e at 0 0 wants 1;");
        Checks.due("RIPE", x.told(10), 0);
        x.hour(1);
        Checks.due("RIPE behind an HOUR", x.told(10), 4);
        x.hour(1);
        Checks.due("RIPE behind two", x.told(10), 5);
        Checks.due("UP in HOUR 2", x.told(8), 0);
        x.hour(1);
        Checks.due("UP in HOUR 3", x.told(8), 1);
        x.hour(11);
        Checks.due("HOUR", x.told(7), 14);
        Checks.due("UP in HOUR 14", x.told(8), 0);
        Checks.due("RIPE stays so", x.told(10), 5);
    }

    static void promise14_wind() {
        KiteLand x = Checks.land(WHOLE);
        Checks.gives(x, "told latest", x.wind(0, 0), 4);
        Checks.gives(x, "its force", x.wind(0, 1), 1);
        Checks.gives(x, "of the last hour", x.wind(11, 0), 0);
        Checks.gives(x, "no force", x.wind(11, 1), 0);
        Checks.gives(x, "without", x.wind(5, 0), 2);
        Checks.gives(x, "its force", x.wind(5, 1), 2);
        Checks.refuses(x, 1, "hour -1", () -> x.wind(-1, 0));
        Checks.refuses(x, 1, "hour 12", () -> x.wind(12, 0));
        Checks.refuses(x, 1, "what -1", () -> x.wind(0, -1));
        Checks.refuses(x, 1, "what 2", () -> x.wind(0, 2));
    }

    static void promise15_kite() {
        KiteLand x = Checks.land(WHOLE);
        int[][] due = {{8, 6, 2, 9, 3, 0, 0, 7}, {0, 0, 1, 3, 1, 0, 0, 0}};
        for (int kite = 0; kite < 2; kite++) {
            for (int what = 0; what < 8; what++) {
                Checks.gives(x, "kite " + kite + " " + what, x.kite(kite, what), due[kite][what]);
            }
        }
        Checks.refuses(x, 1, "kite -1", () -> x.kite(-1, 0));
        Checks.refuses(x, 1, "kite 2", () -> x.kite(2, 0));
        Checks.refuses(x, 1, "what -1", () -> x.kite(0, -1));
        Checks.refuses(x, 1, "what 8", () -> x.kite(0, 8));
    }

    static void promise16_crop() {
        KiteLand x = Checks.land(WHOLE);
        int[][] due = {{1, 2, 99, 0}, {8, 6, 1, 0}};
        for (int crop = 0; crop < 2; crop++) {
            for (int what = 0; what < 4; what++) {
                Checks.gives(x, "crop " + crop + " " + what, x.crop(crop, what), due[crop][what]);
            }
        }
        Checks.refuses(x, 1, "crop -1", () -> x.crop(-1, 0));
        Checks.refuses(x, 1, "crop 2", () -> x.crop(2, 0));
        Checks.refuses(x, 1, "what -1", () -> x.crop(0, -1));
        Checks.refuses(x, 1, "what 4", () -> x.crop(0, 4));
    }

    static void promise17_tenant() {
        KiteLand x = Checks.land(WHOLE);
        int[] due = {3, 4, 1, 0, 0};
        for (int what = 0; what < 5; what++) {
            Checks.gives(x, "tenant " + what, x.tenant(0, what), due[what]);
        }
        Checks.refuses(x, 1, "tenant -1", () -> x.tenant(-1, 0));
        Checks.refuses(x, 1, "tenant 1", () -> x.tenant(1, 0));
        Checks.refuses(x, 1, "what -1", () -> x.tenant(0, -1));
        Checks.refuses(x, 1, "what 5", () -> x.tenant(0, 5));
    }
}
