/** Promises 29 to 36: what is done. Without more, winds are east by 2 and NOON is 6. */
final class DeedTests {
    /** Shade of a: columns 1 to 3, rows 2 to 4. */
    private static final String FARM = "land 9 by 7;kite a at 0 3;crop c at 2 3 wants 2;crop d at 8 0 wants 1;"
            + "tenant t at 2 2 of a;tenant u at 2 6 of a;tenant v at 6 5 of a;";
    /** Both STRINGS CROSS, a's is the longer. */
    private static final String CROSSED = "land 9 by 7;kite a at 0 3 string 7;kite b at 2 1 string 6 veers 2;";

    private DeedTests() {
    }

    private static int place(KiteLand x, int tenant) {
        return x.tenant(tenant, 1) * 10 + x.tenant(tenant, 0);
    }

    static void promise29_anHourGoesBy() {
        KiteLand x = Checks.land(FARM);
        Checks.gives(x, "hour", x.hour(1), 0);
        Checks.due("HOUR", x.told(7), 1);
        Checks.due("GROWN of c", x.crop(0, 3), 1);
        Checks.due("GROWN of d", x.crop(1, 3), 0);
        Checks.due("PURSE", x.kite(0, 5), 2);
        Checks.due("t TILLED", x.tenant(0, 3), 1);
        Checks.due("t stays", place(x, 0), 22);
        Checks.due("u goes by a row", place(x, 1), 52);
        Checks.due("v goes by a column", place(x, 2), 55);
        Checks.due("v TILLED", x.tenant(2, 3), 0);
        Checks.due("v IDLE", x.tenant(2, 4), 0);
        Checks.gives(x, "hours", x.hour(2), 0);
        Checks.due("u is there", place(x, 1), 42);
        Checks.due("u TILLED", x.tenant(1, 3), 1);
        Checks.due("v beside it", place(x, 2), 53);
        Checks.due("PURSE", x.kite(0, 5), 7);
        Checks.due("GROWN beyond what it WANTS", x.crop(0, 3), 3);
        x.hour(1);
        Checks.due("v goes by a row then", place(x, 2), 43);
    }

    static void promise29_atNoonTheShadeIsLess() {
        KiteLand x = Checks.land(FARM);
        x.hour(6);
        Checks.due("t ahead of NOON", place(x, 0), 22);
        x.hour(1);
        Checks.due("t follows", place(x, 0), 32);
        Checks.due("v follows by a column", place(x, 2), 42);
        Checks.due("GROWN", x.crop(0, 3), 7);
        Checks.due("t TILLED", x.tenant(0, 3), 6);
    }

    static void promise29_theNearestIsTheFirstByRowThenColumn() {
        // b takes the middle of a's shade from him
        KiteLand x = Checks.land("land 9 by 7;law 2;kite a at 2 3 string 0;kite b at 2 3 size 0 string 0;tenant t at 2 3 of a;");
        x.hour(1);
        Checks.due("north", place(x, 0), 22);
        KiteLand y = Checks.land("land 9 by 1;law 2;kite a at 2 0 string 0;kite b at 2 0 size 0 string 0;tenant t at 2 0 of a;");
        y.hour(1);
        Checks.due("west", place(y, 0), 1);
        // 0 and 3 columns away in rows 0 and 2: of the same row the nearest
        KiteLand z = Checks.land("land 9 by 7;kite a at 4 4 size 2 string 0;tenant t at 4 0 of a;tenant u at 8 2 of a;tenant v at 0 6 of a;");
        z.hour(1);
        Checks.due("straight south", place(z, 0), 14);
        Checks.due("straight west", place(z, 1), 27);
        Checks.due("straight east", place(z, 2), 61);
    }

    static void promise29_idle() {
        KiteLand x = Checks.land("land 9 by 7;kite a at 0 3 needs 3;kite b at 0 3;tenant t at 2 3 of a;tenant u at 2 3 of b;");
        x.hour(2);
        Checks.due("t IDLE", x.tenant(0, 4), 2);
        Checks.due("t TILLED", x.tenant(0, 3), 0);
        Checks.due("t stays", place(x, 0), 32);
        Checks.due("u IDLE", x.tenant(1, 4), 0);
        Checks.due("u TILLED", x.tenant(1, 3), 2);
        Checks.due("PURSE of a", x.kite(0, 5), 0);
        Checks.due("PURSE of b", x.kite(1, 5), 2);
    }

    static void promise29_cutsComeAheadOfOwners() {
        KiteLand x = Checks.land(CROSSED + "wind 0 2 1;crop c at 4 3 wants 9;crop d at 2 5 wants 9;tenant t at 2 5 of b;");
        // by force 1 a is 2 long and b 2 long: b's KITE touches a's
        Checks.gives(x, "no CUT in HOUR 0", x.hour(1), 0);
        Checks.gives(x, "the shorter in HOUR 1", x.hour(1), 2);
        Checks.due("CUT", x.told(9), 2);
        Checks.due("GROWN of c", x.crop(0, 3), 1);
        Checks.due("GROWN of d", x.crop(1, 3), 0);
        Checks.due("t has no landlord's shade, in HOUR 0 by the law", x.tenant(0, 4), 2);
        Checks.gives(x, "none more", x.hour(99), 0);
        x.cut(1, false);
        Checks.gives(x, "again", x.hour(13), 2);
        KiteLand y = Checks.land("land 9 by 7;kite a at 0 3 string 6;kite b at 2 1 string 6 veers 2;");
        Checks.gives(y, "both, if alike", y.hour(5), 3);
        Checks.due("CUT", y.told(9), 3);
    }

    static void promise29_whatIsGrownAndInPursesHasAnEnd() {
        StringBuilder text = new StringBuilder("land 1 by 1;kite a at 0 0 string 0;");
        for (char name = 'b'; name < 'j'; name++) {
            text.append("crop c").append(name).append(" at 0 0 wants 99;");
        }
        for (char name = 'b'; name < 'h'; name++) {
            text.append("tenant t").append(name).append(" at 0 0 of a;");
        }
        KiteLand x = Checks.land(text.toString());
        x.hour(99);
        Checks.due("GROWN", x.crop(7, 3), 99);
        Checks.due("PURSE", x.kite(0, 5), 14 * 99);
        x.hour(1);
        Checks.due("GROWN at most", x.crop(7, 3), 99);
        Checks.due("PURSE all the same", x.kite(0, 5), 14 * 100);
        for (int i = 0; i < 6; i++) {
            x.hour(99);
        }
        x.hour(20);
        Checks.due("PURSE", x.kite(0, 5), 14 * 714);
        x.hour(1);
        Checks.due("PURSE at most", x.kite(0, 5), 9999);
        Checks.due("TILLED", x.tenant(5, 3), 715);
        x.reap(0);
        Checks.due("PURSE still", x.kite(0, 5), 9999);
    }

    static void promise29_wrongNumbersAndTheLastHour() {
        KiteLand x = Checks.land(FARM);
        Checks.refuses(x, 1, "0 hours", () -> x.hour(0));
        Checks.refuses(x, 1, "-1 hours", () -> x.hour(-1));
        Checks.refuses(x, 1, "100 hours", () -> x.hour(100));
        for (int i = 0; i < 100; i++) {
            x.hour(99);
        }
        Checks.refuses(x, 1, "100 is asked first", () -> x.hour(100));
        Checks.gives(x, "up to 9,998", x.hour(98), 0);
        Checks.refuses(x, 4, "above 9,999", () -> x.hour(2));
        Checks.gives(x, "9,999", x.hour(1), 0);
        Checks.due("HOUR", x.told(7), 9999);
        Checks.refuses(x, 4, "one more", () -> x.hour(1));
        KiteLand y = new KiteLand();
        Checks.gives(y, "without LAND", y.hour(99), 0);
        Checks.due("HOUR", y.told(7), 99);
    }

    static void promise30_walk() {
        KiteLand x = Checks.land("land 3 by 2;kite a at 1 1;kite b at 2 0;");
        Checks.gives(x, "stays", x.walk(0, 0), 11);
        Checks.due("not WALKED", x.kite(0, 6), 0);
        Checks.gives(x, "north", x.walk(0, 1), 1);
        Checks.due("WALKED one", x.kite(0, 6), 1);
        Checks.gives(x, "east", x.walk(0, 2), 2);
        Checks.gives(x, "south", x.walk(0, 3), 12);
        Checks.gives(x, "west", x.walk(0, 4), 11);
        Checks.gives(x, "stays", x.walk(0, 0), 11);
        Checks.due("WALKED", x.kite(0, 6), 4);
        Checks.due("column", x.kite(0, 0), 1);
        Checks.due("row", x.kite(0, 1), 1);
        Checks.due("b stays", x.kite(1, 0) * 100 + x.kite(1, 6), 200);
        Checks.due("its shade goes along", x.stands(0, 0, 0), 3);
        Checks.refuses(x, 7, "south of the LAND", () -> x.walk(0, 3));
        Checks.refuses(x, 7, "north of the LAND", () -> x.walk(1, 1));
        Checks.refuses(x, 7, "east of the LAND", () -> x.walk(1, 2));
        x.walk(0, 4);
        Checks.refuses(x, 7, "west of the LAND", () -> x.walk(0, 4));
        Checks.refuses(x, 1, "step 5", () -> x.walk(0, 5));
        Checks.refuses(x, 1, "step -1", () -> x.walk(0, -1));
        Checks.refuses(x, 1, "kite 2", () -> x.walk(2, 0));
        Checks.refuses(x, 1, "kite -1", () -> x.walk(-1, 0));
        x.cut(0, true);
        Checks.gives(x, "the HAND of a CUT one", x.walk(0, 2), 11);
    }

    static void promise31_cut() {
        KiteLand x = Checks.land(CROSSED);
        Checks.gives(x, "cut", x.cut(0, true));
        Checks.due("CUT", x.told(9), 1);
        Checks.refusesFlag(x, 7, "it is so", () -> x.cut(0, true));
        Checks.gives(x, "nothing CROSSES", x.hour(1), 0);
        Checks.gives(x, "mend", x.cut(0, false));
        Checks.refusesFlag(x, 7, "it is so, too", () -> x.cut(0, false));
        Checks.due("UP again", x.told(8), 3);
        Checks.refusesFlag(x, 1, "kite 2", () -> x.cut(2, true));
        Checks.refusesFlag(x, 1, "kite -1", () -> x.cut(-1, false));
    }

    static void promise32_sell() {
        KiteLand x = Checks.land(CROSSED);
        Checks.gives(x, "less", x.sell(0, -3), 4);
        Checks.gives(x, "more", x.sell(0, 5), 9);
        Checks.gives(x, "none", x.sell(0, 0), 9);
        Checks.due("STRING", x.kite(0, 3), 9);
        Checks.due("of b", x.kite(1, 3), 6);
        Checks.due("it stands there", x.stands(0, 0, 0), 6);
        Checks.refuses(x, 7, "above 9", () -> x.sell(0, 1));
        Checks.gives(x, "all of it", x.sell(0, -9), 0);
        Checks.refuses(x, 7, "below 0", () -> x.sell(0, -1));
        Checks.gives(x, "all of it again", x.sell(0, 9), 9);
        Checks.refuses(x, 1, "10", () -> x.sell(0, 10));
        Checks.refuses(x, 1, "-10", () -> x.sell(0, -10));
        Checks.refuses(x, 1, "kite 2", () -> x.sell(2, 0));
        Checks.refuses(x, 1, "kite -1", () -> x.sell(-1, 0));
    }

    static void promise33_blow() {
        KiteLand x = Checks.land(CROSSED);
        Checks.gives(x, "blow", x.blow(11, 7, 3));
        Checks.due("direction", x.wind(11, 0), 7);
        Checks.due("force", x.wind(11, 1), 3);
        Checks.due("of the HOUR ahead", x.wind(10, 0) * 10 + x.wind(10, 1), 22);
        Checks.gives(x, "nothing blows", x.blow(0, 0, 0));
        Checks.due("none is UP", x.told(8), 0);
        Checks.refusesFlag(x, 1, "hour 12", () -> x.blow(12, 0, 0));
        Checks.refusesFlag(x, 1, "hour -1", () -> x.blow(-1, 0, 0));
        Checks.refusesFlag(x, 1, "direction 8", () -> x.blow(0, 8, 0));
        Checks.refusesFlag(x, 1, "direction -1", () -> x.blow(0, -1, 0));
        Checks.refusesFlag(x, 1, "force 4", () -> x.blow(0, 0, 4));
        Checks.refusesFlag(x, 1, "force -1", () -> x.blow(0, 0, -1));
    }

    static void promise34_rule() {
        KiteLand x = Checks.land(CROSSED);
        for (int law = 2; law >= 0; law--) {
            Checks.gives(x, "rule", x.rule(law));
            Checks.due("LAW", x.told(6), law);
        }
        x.rule(1);
        Checks.refusesFlag(x, 1, "law 3", () -> x.rule(3));
        Checks.refusesFlag(x, 1, "law -1", () -> x.rule(-1));
    }

    static void promise35_lease() {
        KiteLand x = Checks.land("land 9 by 7;kite a at 0 3;kite b at 0 3 needs 3;tenant t at 2 3 of b;tenant u at 2 3 of b;");
        x.hour(1);
        Checks.gives(x, "lease", x.lease(0, 0));
        Checks.due("his KITE", x.tenant(0, 2), 0);
        Checks.due("the other's", x.tenant(1, 2), 1);
        x.hour(1);
        Checks.due("TILLED", x.tenant(0, 3), 1);
        Checks.due("IDLE as it was", x.tenant(0, 4), 1);
        Checks.due("PURSE of a", x.kite(0, 5), 1);
        Checks.refusesFlag(x, 7, "he is his", () -> x.lease(0, 0));
        Checks.refusesFlag(x, 1, "tenant 2", () -> x.lease(2, 0));
        Checks.refusesFlag(x, 1, "tenant -1", () -> x.lease(-1, 0));
        Checks.refusesFlag(x, 1, "kite 2", () -> x.lease(0, 2));
        Checks.refusesFlag(x, 1, "kite -1", () -> x.lease(0, -1));
    }

    static void promise36_reap() {
        KiteLand x = Checks.land("land 3 by 1;kite a at 0 0 string 0;kite b at 0 0 string 0;crop c at 1 0 wants 3;crop d at 2 0 wants 1;");
        x.hour(2);
        Checks.refuses(x, 7, "not RIPE", () -> x.reap(0));
        Checks.refuses(x, 7, "not RIPE is asked ahead of no OWNER", () -> x.reap(1));
        x.hour(3);
        Checks.gives(x, "reap", x.reap(0), 0);
        Checks.due("GROWN", x.crop(0, 3), 0);
        Checks.due("PURSE gets as much as it WANTS", x.kite(0, 5), 5 + 3);
        Checks.refuses(x, 7, "reaped already", () -> x.reap(0));
        x.hour(5);
        Checks.due("RIPE", x.told(10), 1);
        x.cut(0, true);
        Checks.gives(x, "by the OWNER now", x.reap(0), 1);
        Checks.due("PURSE of b", x.kite(1, 5), 3);
        Checks.due("PURSE of a", x.kite(0, 5), 8 + 4);
        x.hour(5);
        x.cut(1, true);
        Checks.refuses(x, 6, "no OWNER", () -> x.reap(0));
        Checks.refuses(x, 1, "crop 2", () -> x.reap(2));
        Checks.refuses(x, 1, "crop -1", () -> x.reap(-1));
    }

    static void promise36_theOwnerAheadOfCuts() {
        // in this HOUR both would be CUT, but it has not gone by
        KiteLand x = Checks.land("land 9 by 7;wind 0 2 1;kite a at 0 3 string 6;kite b at 2 1 string 6 veers 2;crop c at 2 3 wants 1;");
        x.hour(1);
        Checks.due("doomed", x.doomed(), 3);
        Checks.due("GROWN", x.crop(0, 3), 1);
        x.sell(0, -3);
        Checks.gives(x, "reap", x.reap(0), 0);
    }
}
