/** Promises 46 to 57: plans. Without more, winds are east by 2 and NOON is 6. */
final class PlanTests {
    /** Shade of a: columns 1 to 3, rows 2 to 4; of b: columns 3 to 7, rows 1 to 5; of d: the FIELD 3, 3. */
    private static final String THREE = "land 9 by 7;kite a at 0 3;kite b at 3 3 size 2;kite d at 1 3 size 0;";

    private PlanTests() {
    }

    private static void covers(KiteLand x, int hour, int set, long... fields) {
        Checks.tray(x, 0, 0, fields);
        Checks.gives(x, "cover", x.cover(0, fields.length, hour), Integer.bitCount(set));
        Checks.gives(x, "coverSet", x.coverSet(0, fields.length, hour), set);
    }

    private static void refusesCover(KiteLand x, int status, int tray, int n, int hour) {
        Checks.refuses(x, status, "cover " + tray + " " + n + " " + hour, () -> x.cover(tray, n, hour));
        Checks.refuses(x, status, "coverSet " + tray + " " + n + " " + hour, () -> x.coverSet(tray, n, hour));
    }

    static void promise46and47_cover() {
        KiteLand x = Checks.land(THREE);
        covers(x, 0, 1, 33);
        covers(x, 0, 1, 33, 21, 43);
        covers(x, 0, 2, 33, 57, 33);
        covers(x, 0, 3, 21, 57);
        covers(x, 0, 3, 33, 21, 57, 33);
        covers(x, 6, 4, 33);
        covers(x, 6, 7, 33, 32, 34);
        x.rule(2);
        covers(x, 0, 1, 33);
        x.cut(0, true);
        covers(x, 0, 2, 33);
        x.cut(1, true);
        covers(x, 0, 4, 33);
    }

    static void promise46and47_theFewestOfSeveral() {
        // columns: a 0 to 1, b 1 to 3, d 3 to 5, e 2 to 6, f 0 to 2
        KiteLand x = Checks.land("land 9 by 1;kite a at 0 0 string 0;kite b at 2 0 string 0;kite d at 4 0 string 0;"
                + "kite e at 4 0 size 2 string 0;kite f at 1 0 string 0;");
        covers(x, 0, 16, 0, 1, 2);
        covers(x, 0, 1 + 8, 0, 2, 5);
        covers(x, 0, 1 + 8, 0, 5, 6);
        covers(x, 0, 1 + 8, 0, 1, 2, 3, 4, 5, 6);
        covers(x, 0, 2 + 4, 1, 3, 2, 5);
        covers(x, 0, 2, 1, 3);
    }

    static void promise46and47_asManyAsSix() {
        KiteLand x = Checks.land("land 9 by 1;kite a at 0 0 size 0 string 0;kite b at 1 0 size 0 string 0;kite d at 2 0 size 0 string 0;"
                + "kite e at 3 0 size 0 string 0;kite f at 4 0 size 0 string 0;kite g at 5 0 size 0 string 0;");
        covers(x, 0, 63, 5, 4, 3, 2, 1, 0);
        covers(x, 0, 62, 5, 4, 3, 2, 1);
        covers(x, 0, 32, 5);
        x.cut(5, true);
        refusesCover(x, 6, 0, 1, 0);
    }

    static void promise46and47_wrongNumbersInTheirOrder() {
        KiteLand x = Checks.land(THREE);
        Checks.tray(x, 0, 3, 0, 9, 33);
        x.tray(2, 0, 20);
        refusesCover(x, 1, -1, 1, 0);
        refusesCover(x, 1, 4, 1, 0);
        refusesCover(x, 1, 1, 0, 0);
        refusesCover(x, 1, 1, 21, 0);
        refusesCover(x, 1, 1, 1, -1);
        refusesCover(x, 1, 1, 1, 12);
        refusesCover(x, 2, 1, 1, 0);
        refusesCover(x, 3, 0, 4, 0);
        refusesCover(x, 6, 0, 1, 0);
        refusesCover(x, 5, 0, 2, 0);
        refusesCover(x, 6, 2, 20, 0);
        for (long wrong : new long[] {-1, 9, 19, 69, 70, 100, 1L << 40, Long.MIN_VALUE, Long.MAX_VALUE, (1L << 32) + 33}) {
            x.write(0, 0, 33);
            x.write(0, 1, wrong);
            Checks.gives(x, "the first alone", x.coverSet(0, 1, 0), 1);
            refusesCover(x, 5, 0, 2, 0);
        }
        KiteLand y = Checks.land("land 3 by 2;kite a at 0 0 string 0;");
        Checks.tray(y, 0, 0, 3, 20);
        refusesCover(y, 5, 0, 1, 0);
        y.write(0, 0, 11);
        Checks.gives(y, "the last place is not asked", y.cover(0, 1, 0), 1);
        refusesCover(y, 5, 0, 2, 0);
        refusesCover(y, 6, 0, 1, 6);
    }

    static void promise48_settle() {
        KiteLand x = Checks.land("land 9 by 1;kite a at 1 0 string 0;tenant t at 1 0 of a;tenant u at 0 0 of a;tenant v at 0 0 of a;");
        String before = Shot.of(x);
        Checks.gives(x, "none steps", x.settle(0), 2);
        Checks.gives(x, "t leaves his", x.settle(1), 3);
        Checks.gives(x, "far", x.settle(20), 3);
        Checks.due("all is as it was", Shot.of(x), before);
        x.hour(6);
        Checks.gives(x, "one FIELD at NOON", x.settle(20), 1);
        x.cut(0, true);
        Checks.gives(x, "no FIELD", x.settle(20), 0);
        Checks.refuses(x, 1, "-1", () -> x.settle(-1));
        Checks.refuses(x, 1, "21", () -> x.settle(21));
        KiteLand y = new KiteLand();
        Checks.gives(y, "nobody", y.settle(0), 0);
    }

    static void promise48_ofHisOwnKiteByBothWays() {
        KiteLand x = Checks.land("land 9 by 7;kite a at 4 4 size 0 string 0;kite b at 5 4 size 0 string 0;"
                + "tenant t at 2 2 of a;tenant u at 5 4 of a;tenant v at 8 6 of b;tenant w at 5 4 of b;");
        Checks.gives(x, "w", x.settle(0), 1);
        Checks.gives(x, "u to 4, 4", x.settle(1), 2);
        Checks.gives(x, "not more by 3", x.settle(3), 2);
        Checks.gives(x, "one FIELD for two of each", x.settle(20), 2);
        x.lease(3, 0);
        Checks.gives(x, "4 steps do not bring v", x.settle(4), 1);
        Checks.gives(x, "5 do", x.settle(5), 2);
    }

    static void promise48_sixTenants() {
        KiteLand x = Checks.land("land 9 by 1;kite a at 1 0 size 2 string 0;kite b at 8 0 string 0;tenant o at 0 0 of a;"
                + "tenant p at 0 0 of a;tenant q at 0 0 of a;tenant r at 0 0 of a;tenant s at 0 0 of b;tenant t at 8 0 of b;");
        int[] due = {2, 3, 4, 5, 5, 5, 5, 6, 6};
        for (int steps = 0; steps < due.length; steps++) {
            Checks.gives(x, "settle " + steps, x.settle(steps), due[steps]);
        }
        x.lease(4, 0);
        Checks.gives(x, "five for four FIELDS of a, and t", x.settle(20), 5);
    }

    static void promise49_strip() {
        KiteLand x = Checks.land(THREE + "kite e at 0 6 needs 3;wind 5 2 0;");
        x.tray(0, 0, 11);
        x.write(0, 9, 77);
        Checks.gives(x, "strip", x.strip(0, 3, 0), 9);
        Checks.due("a in row 3", Checks.row(x, 0, 11), "0 10 11 10 0 0 0 0 0 77 0");
        x.strip(0, 4, 0);
        Checks.due("a in row 4", Checks.row(x, 0, 11), "0 10 10 10 0 0 0 0 0 77 0");
        x.strip(1, 2, 0);
        Checks.due("b in row 2", Checks.row(x, 0, 9), "0 0 0 10 11 11 11 10 0");
        x.strip(1, 0, 0);
        Checks.due("b in row 0", Checks.row(x, 0, 9), "0 0 0 0 0 0 0 0 0");
        x.strip(2, 3, 0);
        Checks.due("d behind others", Checks.row(x, 0, 9), "0 0 0 11 0 0 0 0 0");
        x.strip(3, 6, 0);
        Checks.due("e is never UP", Checks.row(x, 0, 9), "0 0 0 0 0 0 0 0 0");
        x.cut(2, true);
        x.hour(7);
        x.strip(2, 3, 0);
        Checks.due("CUT or not, in any HOUR", Checks.row(x, 0, 9), "0 0 0 11 0 0 0 0 0");
        Checks.due("CUT still", x.told(9), 4);
        x.walk(0, 1);
        x.strip(0, 3, 0);
        Checks.due("where it is now", Checks.row(x, 0, 9), "0 10 10 10 0 0 0 0 0");
        x.sell(0, -3);
        x.strip(0, 2, 0);
        Checks.due("from the first column on", Checks.row(x, 0, 9), "11 10 0 0 0 0 0 0 0");
    }

    static void promise49_wrongNumbers() {
        KiteLand x = Checks.land(THREE);
        x.tray(0, 3, 8);
        Checks.refuses(x, 1, "kite 3", () -> x.strip(3, 0, 0));
        Checks.refuses(x, 1, "kite -1", () -> x.strip(-1, 0, 0));
        Checks.refuses(x, 1, "row 7", () -> x.strip(0, 7, 1));
        Checks.refuses(x, 1, "row -1", () -> x.strip(0, -1, 1));
        Checks.refuses(x, 1, "tray 4", () -> x.strip(0, 0, 4));
        Checks.refuses(x, 1, "tray -1", () -> x.strip(0, 0, -1));
        Checks.refuses(x, 2, "a MISSING tray", () -> x.strip(0, 0, 1));
        Checks.refuses(x, 3, "too few numbers", () -> x.strip(0, 3, 0));
        x.tray(0, 3, 9);
        Checks.gives(x, "just enough", x.strip(0, 3, 0), 9);
    }

    static void promise50_suspects() {
        KiteLand x = Checks.land(THREE + "kite e at 0 3;");
        Checks.tray(x, 0, 0, 0, 11, 12, 11, 0, 0, 0, 0, 0);
        Checks.gives(x, "a and e", x.suspects(3, 0), 1 + 8);
        x.cut(0, true);
        Checks.gives(x, "CUT or not", x.suspects(3, 0), 1 + 8);
        Checks.gives(x, "not in row 2", x.suspects(2, 0), 0);
        x.walk(3, 3);
        Checks.gives(x, "a alone", x.suspects(3, 0), 1);
        x.tray(1, 2, 9);
        Checks.gives(x, "all in row 6", x.suspects(6, 1), 15);
        Checks.gives(x, "all but b in row 1", x.suspects(1, 1), 13);
        x.write(0, 8, 1);
        Checks.gives(x, "unlike in the last", x.suspects(3, 0), 0);
        x.write(0, 8, 256);
        x.write(0, 0, -1);
        Checks.gives(x, "unlike in the first", x.suspects(3, 0), 0);
        Checks.due("the tray stays", Checks.row(x, 0, 9), "-1 11 12 11 0 0 0 0 0");
        x.tray(3, 0, 8);
        Checks.refuses(x, 1, "row 7", () -> x.suspects(7, 2));
        Checks.refuses(x, 1, "row -1", () -> x.suspects(-1, 2));
        Checks.refuses(x, 1, "tray 4", () -> x.suspects(0, 4));
        Checks.refuses(x, 1, "tray -1", () -> x.suspects(0, -1));
        Checks.refuses(x, 2, "a MISSING tray", () -> x.suspects(0, 2));
        Checks.refuses(x, 3, "too few numbers", () -> x.suspects(0, 3));
    }

    static void promise51and52_strips() {
        KiteLand x = Checks.land("land 5 by 3;kite a at 0 2 size 0 string 0;kite b at 2 2 size 0 string 0;kite d at 2 2 string 0;kite e at 2 2 string 0;");
        Checks.gives(x, "all 0", x.strips(0), 1);
        Checks.gives(x, "0 and d, e", x.strips(1), 2);
        Checks.gives(x, "a, b and d", x.strips(2), 3);
        Checks.gives(x, "telling", x.telling(), 2);
        x.walk(0, 1);
        Checks.gives(x, "the first of several", x.telling(), 1);
        Checks.gives(x, "a, b and d with a in row 1", x.strips(1), 3);
        x.cut(0, true);
        Checks.gives(x, "CUT or not", x.strips(1), 3);
        x.walk(0, 1);
        Checks.gives(x, "without a in row 1", x.strips(1), 2);
        Checks.refuses(x, 1, "row 3", () -> x.strips(3));
        Checks.refuses(x, 1, "row -1", () -> x.strips(-1));
    }

    static void promise51and52_edges() {
        KiteLand x = new KiteLand();
        Checks.refuses(x, 6, "no LAND", () -> x.telling());
        Checks.refuses(x, 1, "no row", () -> x.strips(0));
        Checks.county(x, "land 2 by 2;");
        Checks.gives(x, "no KITE", x.strips(1), 0);
        Checks.gives(x, "the first row", x.telling(), 0);
    }

    private static void duels(KiteLand x, int a, int b, int n, int lead, int step) {
        String before = Shot.of(x);
        Checks.gives(x, "duel " + a + " " + b + " " + n, x.duel(a, b, n), lead);
        if (n > 0) {
            Checks.gives(x, "duelStep " + a + " " + b + " " + n, x.duelStep(a, b, n), step);
        }
        Checks.due("all is as it was", Shot.of(x), before);
    }

    static void promise53and54_duel() {
        KiteLand x = Checks.land("land 3 by 1;kite a at 1 0 size 0 string 0;kite b at 0 0 string 0;");
        duels(x, 0, 1, 0, 0, 0);
        // what a has, the answer of b to 1, 0 takes back and more
        duels(x, 0, 1, 1, 0, 0);
        duels(x, 0, 1, 2, -1, 0);
        duels(x, 1, 0, 0, 0, 0);
        duels(x, 1, 0, 1, 1, 2);
        // a under b's middle has 1 of 3 wherever he is
        duels(x, 1, 0, 2, 1, 2);
        duels(x, 1, 0, 3, 1, 0);
    }

    static void promise53and54_theFirstBeginsByTurns() {
        KiteLand x = Checks.land("land 9 by 1;kite a at 1 0 size 0 string 0;kite b at 2 0 size 0 string 0;");
        duels(x, 0, 1, 0, 0, 0);
        duels(x, 0, 1, 1, 1, 2);
        // b goes on, out of reach
        duels(x, 0, 1, 2, 0, 0);
        // but not of two steps in three turns
        duels(x, 0, 1, 3, 1, 2);
        duels(x, 1, 0, 1, 0, 0);
        // b has to leave in time: staying or going nearer, a takes its FIELD
        duels(x, 1, 0, 2, 0, 2);
        // the other ways
        KiteLand west = Checks.land("land 9 by 7;kite a at 2 2 size 0 string 0;kite b at 1 2 size 0 string 0;");
        Checks.gives(west, "west by itself", west.duelStep(0, 1, 1), 4);
        duels(west, 0, 1, 1, 1, 4);
        west.walk(1, 1);
        Checks.gives(west, "out of reach now", west.duelStep(0, 1, 1), 0);
        west.walk(1, 2);
        duels(west, 0, 1, 1, 1, 1);
        west.walk(0, 1);
        west.walk(0, 1);
        duels(west, 0, 1, 1, 1, 3);
        // staying costs b its FIELD, going east it is free for four turns, in a LAND that wide
        KiteLand six = Checks.land("land 6 by 1;kite a at 2 0 size 0 string 0;kite b at 3 0 size 0 string 0;");
        duels(six, 1, 0, 4, 0, 2);
        KiteLand four = Checks.land("land 4 by 1;kite a at 1 0 size 0 string 0;kite b at 3 0 size 0 string 0;");
        duels(four, 1, 0, 2, 0, 0);
        duels(four, 1, 0, 4, -1, 0);
        KiteLand y = Checks.land("land 2 by 1;kite a at 0 0 size 0 string 0;kite b at 1 0 size 0 string 0;");
        // no way out for b: in either FIELD a takes it
        duels(y, 1, 0, 2, -1, 0);
        duels(y, 0, 1, 3, 1, 0);
        duels(y, 0, 1, 4, 0, 0);
    }

    static void promise53and54_inThisHourWithoutCuts() {
        KiteLand x = Checks.land("land 9 by 7;wind 1 2 0;kite a at 0 3 string 6;kite b at 2 1 string 6 veers 2;");
        Checks.due("they CROSS", x.doomed(), 3);
        // a has 3 to 5 by 2 to 4, b 1 to 3 by 4 to 6, of which 3, 4 is a's
        duels(x, 0, 1, 0, 1, 0);
        x.rule(2);
        duels(x, 0, 1, 0, 0, 0);
        x.rule(0);
        x.cut(0, true);
        duels(x, 0, 1, 0, -9, 0);
        x.cut(0, false);
        x.blow(0, 2, 0);
        duels(x, 0, 1, 0, 0, 0);
        x.blow(0, 2, 2);
        x.cut(1, true);
        x.hour(1);
        duels(x, 0, 1, 4, 0, 0);
        x.hour(5);
        duels(x, 0, 1, 0, 1, 0);
    }

    static void promise53and54_minusOneIsAnAnswer() {
        KiteLand x = Checks.land("land 3 by 1;kite a at 0 0 needs 3;kite b at 0 0 size 0 string 0;");
        duels(x, 0, 1, 0, -1, 0);
        duels(x, 0, 1, 4, -1, 0);
        duels(x, 1, 0, 4, 1, 0);
    }

    static void promise53and54_wrongNumbers() {
        KiteLand x = Checks.land(THREE);
        int[][] wrong = {{0, 0, 1}, {-1, 0, 1}, {0, -1, 1}, {3, 0, 1}, {0, 3, 1}, {0, 1, -1}, {0, 1, 5}};
        for (int[] one : wrong) {
            Checks.refuses(x, 1, "duel", () -> x.duel(one[0], one[1], one[2]));
            Checks.refuses(x, 1, "duelStep", () -> x.duelStep(one[0], one[1], one[2]));
        }
        Checks.refuses(x, 1, "duelStep in no turn", () -> x.duelStep(0, 1, 0));
        Checks.gives(x, "duel in no turn", x.duel(0, 1, 0), 9 - 22);
    }

    static void promise55_needed() {
        KiteLand x = Checks.land(THREE);
        Checks.gives(x, "b", x.needed(), 1);
        x.rule(2);
        Checks.gives(x, "b by LAW 2", x.needed(), 1);
        x.cut(1, true);
        Checks.gives(x, "a", x.needed(), 0);
        x.cut(0, true);
        Checks.gives(x, "d", x.needed(), 2);
        x.cut(2, true);
        Checks.refuses(x, 6, "no KITE is UP", () -> x.needed());
        // b has more FIELDS alone, though a owns as many as he SHADES
        KiteLand y = Checks.land("land 9 by 1;kite a at 2 0 string 0;kite b at 3 0 size 2 string 0;kite d at 8 0 size 0 string 0;wind 1 2 0;");
        Checks.gives(y, "4 and 5 are b's alone", y.needed(), 1);
        KiteLand z = Checks.land("land 9 by 1;kite a at 2 0 string 0 needs 3;kite b at 3 0 string 0;kite d at 3 0 string 0;wind 1 2 0;");
        Checks.gives(z, "of none that has a FIELD alone, the first that is UP", z.needed(), 1);
        z.hour(1);
        Checks.refuses(z, 6, "none is UP in this HOUR", () -> z.needed());
        KiteLand none = new KiteLand();
        Checks.refuses(none, 6, "no KITE", () -> none.needed());
    }

    static void promise56_share() {
        KiteLand x = Checks.land("land 9 by 1;kite a at 0 0 size 0 string 0;kite b at 2 0 size 0 string 0;kite d at 4 0 string 0;"
                + "crop c at 0 0 wants 1;crop e at 2 0 wants 1;tenant t at 2 0 of b;");
        Checks.refusesFlag(x, 6, "all are empty", () -> x.share(0));
        x.hour(4);
        Checks.gives(x, "of a", x.share(0));
        Checks.due("4 of 12", Checks.fraction(x), "1/3");
        Checks.gives(x, "of b", x.share(1));
        Checks.due("8 of 12", Checks.fraction(x), "2/3");
        Checks.refusesFlag(x, 1, "kite 3", () -> x.share(3));
        Checks.refusesFlag(x, 1, "kite -1", () -> x.share(-1));
        Checks.gives(x, "of d", x.share(2));
        Checks.due("0 of 12", Checks.fraction(x), "0/1");
        KiteLand y = Checks.land("land 1 by 1;kite a at 0 0 string 0;crop c at 0 0 wants 1;");
        y.hour(3);
        Checks.gives(y, "of all", y.share(0));
        Checks.due("3 of 3", Checks.fraction(y), "1/1");
        Checks.refusesFlag(y, 1, "1 is asked ahead of 6", () -> y.share(1));
    }

    static void promise57_shaded() {
        KiteLand x = Checks.land(THREE);
        Checks.gives(x, "shaded", x.shaded());
        Checks.due("31 in 11 HOURS, 11 at NOON", Checks.fraction(x), "88/3");
        x.rule(2);
        x.shaded();
        Checks.due("28 in 11 HOURS, 11 at NOON", Checks.fraction(x), "319/12");
        x.cut(0, true);
        x.cut(1, true);
        x.hour(7);
        x.shaded();
        Checks.due("d alone", Checks.fraction(x), "1/1");
        KiteLand y = new KiteLand();
        Checks.refusesFlag(y, 6, "no LAND", () -> y.shaded());
        Checks.county(y, "land 1 by 1;");
        Checks.gives(y, "no KITE", y.shaded());
        Checks.due("none", Checks.fraction(y), "0/1");
    }
}
