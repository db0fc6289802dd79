/** Promises 37 to 45: what would be. Without more, winds are east by 2 and NOON is 6. */
final class AheadTests {
    /** a SHADES columns 0 and 1 but at NOON, when it is column 0 alone. */
    private static final String STILL = "land 3 by 1;kite a at 0 0 string 0;";
    /** Both CUT in HOUR 2, the first with the force for it. */
    private static final String SHORT_LIVED = "land 9 by 7;wind 0 2 1;wind 1 2 1;kite a at 0 3 string 6;"
            + "kite b at 2 1 string 6 veers 2;crop c at 2 3 wants 2;crop d at 2 3 wants 3;tenant t at 2 6 of b;";

    private AheadTests() {
    }

    private static String onlyInHour(int hour) {
        StringBuilder text = new StringBuilder();
        for (int i = 0; i < 12; i++) {
            text.append(i == hour ? "" : "wind " + i + " 2 0;");
        }
        return text.toString();
    }

    static void promise37_ripe() {
        KiteLand x = Checks.land(STILL + "crop c at 1 0 wants 7;crop d at 2 0 wants 1;crop e at 0 0 wants 7;");
        String before = Shot.of(x);
        Checks.gives(x, "behind NOON", x.ripe(0), 8);
        Checks.gives(x, "at NOON, too", x.ripe(2), 7);
        Checks.due("all is as it was", Shot.of(x), before);
        Checks.refuses(x, 6, "never", () -> x.ripe(1));
        x.hour(5);
        Checks.gives(x, "two more and NOON", x.ripe(0), 3);
        x.hour(3);
        Checks.gives(x, "RIPE now", x.ripe(0), 0);
        x.cut(0, true);
        Checks.gives(x, "RIPE now whatever is CUT", x.ripe(0), 0);
        Checks.refuses(x, 1, "crop 3", () -> x.ripe(3));
        Checks.refuses(x, 1, "crop -1", () -> x.ripe(-1));
    }

    static void promise37_within999() {
        KiteLand x = Checks.land("land 1 by 1;kite a at 0 0 string 0;crop c at 0 0 wants 84;" + onlyInHour(2));
        Checks.gives(x, "83 days and three HOURS", x.ripe(0), 999);
        KiteLand y = Checks.land("land 1 by 1;kite a at 0 0 string 0;crop c at 0 0 wants 84;" + onlyInHour(3));
        Checks.refuses(y, 6, "one HOUR more", () -> y.ripe(0));
        y.hour(1);
        Checks.gives(y, "an HOUR later", y.ripe(0), 999);
    }

    static void promise37_beyondTheLastHour() {
        KiteLand x = Checks.land(STILL + "crop c at 0 0 wants 99;tenant t at 2 0 of a;");
        for (int i = 0; i < 101; i++) {
            x.hour(99);
        }
        x.reap(0);
        Checks.due("HOUR", x.told(7), 9999);
        Checks.gives(x, "ripe", x.ripe(0), 99);
        Checks.gives(x, "leaseOf", x.leaseOf(0, 0, 0, 99), 99);
        Checks.gives(x, "planted", x.planted(99), 99);
        Checks.gives(x, "purseIn", x.purseIn(0, 99), 9999);
        Checks.gives(x, "fly", x.fly(0, 0, 0, 5), 5);
    }

    static void promise37_byWhatIsCutUntilThen() {
        KiteLand x = Checks.land(SHORT_LIVED);
        Checks.gives(x, "twice ahead of the CUT", x.ripe(0), 2);
        Checks.refuses(x, 6, "a third time never", () -> x.ripe(1));
    }

    static void promise38_leaseOf() {
        KiteLand x = Checks.land(STILL + "kite b at 0 0 string 0;");
        Checks.gives(x, "no HOUR", x.leaseOf(0, 0, 0, 0), 0);
        Checks.gives(x, "until NOON", x.leaseOf(1, 0, 0, 6), 6);
        Checks.gives(x, "with NOON", x.leaseOf(1, 0, 0, 7), 6);
        Checks.gives(x, "a day", x.leaseOf(1, 0, 0, 12), 11);
        Checks.gives(x, "99 HOURS", x.leaseOf(1, 0, 0, 99), 91);
        Checks.gives(x, "of the other", x.leaseOf(1, 0, 1, 99), 0);
        Checks.gives(x, "of none", x.leaseOf(2, 0, 0, 99), 0);
        x.hour(5);
        Checks.gives(x, "from HOUR 5", x.leaseOf(1, 0, 0, 2), 1);
        Checks.refuses(x, 1, "column 3", () -> x.leaseOf(3, 0, 0, 1));
        Checks.refuses(x, 1, "column -1", () -> x.leaseOf(-1, 0, 0, 1));
        Checks.refuses(x, 1, "row 1", () -> x.leaseOf(0, 1, 0, 1));
        Checks.refuses(x, 1, "row -1", () -> x.leaseOf(0, -1, 0, 1));
        Checks.refuses(x, 1, "kite 2", () -> x.leaseOf(0, 0, 2, 1));
        Checks.refuses(x, 1, "kite -1", () -> x.leaseOf(0, 0, -1, 1));
        Checks.refuses(x, 1, "n -1", () -> x.leaseOf(0, 0, 0, -1));
        Checks.refuses(x, 1, "n 100", () -> x.leaseOf(0, 0, 0, 100));
    }

    static void promise38_behindAllCuts() {
        KiteLand x = Checks.land(SHORT_LIVED);
        Checks.gives(x, "HOURS 0 and 1", x.leaseOf(2, 3, 0, 99), 2);
        Checks.gives(x, "not in HOUR 2 any more", x.leaseOf(4, 3, 0, 3), 0);
        x.sell(0, 1);
        Checks.gives(x, "the longer stays", x.leaseOf(4, 3, 0, 3), 1);
        Checks.due("nothing is CUT by asking", x.told(9), 0);
    }

    static void promise39and40_plant() {
        KiteLand x = Checks.land("land 9 by 7;kite a at 0 3;");
        String before = Shot.of(x);
        Checks.gives(x, "the first of nine", x.plant(6), 21);
        Checks.gives(x, "for six HOURS", x.planted(6), 6);
        Checks.gives(x, "the one that NOON leaves", x.plant(7), 32);
        Checks.gives(x, "for seven HOURS", x.planted(7), 7);
        Checks.gives(x, "99", x.plant(99), 32);
        Checks.gives(x, "for 99", x.planted(99), 99);
        Checks.gives(x, "one", x.plant(1), 21);
        Checks.gives(x, "for one", x.planted(1), 1);
        Checks.due("all is as it was", Shot.of(x), before);
        x.cut(0, true);
        Checks.gives(x, "never", x.planted(5), 0);
        Checks.gives(x, "the first of all", x.plant(5), 0);
        KiteLand y = Checks.land(SHORT_LIVED);
        Checks.gives(y, "until the CUT", y.planted(12), 2);
    }

    static void promise39and40_byTheLaw() {
        KiteLand x = Checks.land("land 9 by 1;kite a at 1 0 string 0;kite b at 2 0 string 0;law 2;");
        Checks.gives(x, "what a has alone", x.plant(6), 0);
        x.walk(0, 4);
        Checks.gives(x, "0 and 2, 3: the first", x.plant(6), 0);
        x.cut(0, true);
        Checks.gives(x, "what b has", x.plant(6), 1);
        x.hour(6);
        Checks.gives(x, "at NOON", x.plant(1), 2);
    }

    static void promise39and40_wrongNumbers() {
        KiteLand x = Checks.land(STILL);
        KiteLand y = new KiteLand();
        for (int n : new int[] {0, -1, 100}) {
            Checks.refuses(x, 1, "plant " + n, () -> x.plant(n));
            Checks.refuses(x, 1, "planted " + n, () -> x.planted(n));
            Checks.refuses(y, 1, "plant without LAND " + n, () -> y.plant(n));
            Checks.refuses(y, 1, "planted without LAND " + n, () -> y.planted(n));
        }
        Checks.refuses(y, 6, "plant without LAND", () -> y.plant(99));
        Checks.refuses(y, 6, "planted without LAND", () -> y.planted(99));
    }

    static void promise41_purseIn() {
        KiteLand x = Checks.land(STILL + "crop c at 1 0 wants 1;tenant t at 2 0 of a;");
        String before = Shot.of(x);
        // the crop but at NOON; the tenant one HOUR on his way to 1, 0 and one at NOON to 0, 0
        Checks.gives(x, "now", x.purseIn(0, 0), 0);
        Checks.gives(x, "in 1", x.purseIn(0, 1), 1);
        Checks.gives(x, "in 2", x.purseIn(0, 2), 3);
        Checks.gives(x, "in 6", x.purseIn(0, 6), 11);
        Checks.gives(x, "in 7", x.purseIn(0, 7), 11);
        Checks.gives(x, "in 99", x.purseIn(0, 99), 91 + 97);
        Checks.due("all is as it was", Shot.of(x), before);
        x.hour(6);
        Checks.gives(x, "now", x.purseIn(0, 0), 11);
        Checks.gives(x, "in 1 from NOON", x.purseIn(0, 1), 11);
        Checks.refuses(x, 1, "kite 1", () -> x.purseIn(1, 0));
        Checks.refuses(x, 1, "kite -1", () -> x.purseIn(-1, 0));
        Checks.refuses(x, 1, "n -1", () -> x.purseIn(0, -1));
        Checks.refuses(x, 1, "n 100", () -> x.purseIn(0, 100));
    }

    static void promise42_tenantIn() {
        KiteLand x = Checks.land("land 9 by 7;kite a at 0 3;tenant t at 6 5 of a;tenant u at 0 0 of a;");
        String before = Shot.of(x);
        int[] due = {56, 55, 54, 53, 43, 43, 43, 42};
        for (int n = 0; n < due.length; n++) {
            Checks.gives(x, "in " + n, x.tenantIn(0, n), due[n]);
        }
        Checks.gives(x, "in 99", x.tenantIn(0, 99), 32);
        Checks.gives(x, "the other in 2", x.tenantIn(1, 2), 11);
        Checks.due("all is as it was", Shot.of(x), before);
        Checks.refuses(x, 1, "tenant 2", () -> x.tenantIn(2, 0));
        Checks.refuses(x, 1, "tenant -1", () -> x.tenantIn(-1, 0));
        Checks.refuses(x, 1, "n -1", () -> x.tenantIn(0, -1));
        Checks.refuses(x, 1, "n 100", () -> x.tenantIn(0, 100));
    }

    static void promise43_cutIn() {
        KiteLand x = Checks.land(SHORT_LIVED + "kite e at 8 6;");
        Checks.gives(x, "behind HOUR 2", x.cutIn(0), 3);
        Checks.gives(x, "the other", x.cutIn(1), 3);
        Checks.refuses(x, 6, "never", () -> x.cutIn(2));
        Checks.due("nothing is CUT by asking", x.told(9), 0);
        x.sell(0, 1);
        Checks.refuses(x, 6, "the longer never", () -> x.cutIn(0));
        Checks.gives(x, "the shorter", x.cutIn(1), 3);
        x.hour(2);
        Checks.gives(x, "in this HOUR", x.cutIn(1), 1);
        x.hour(1);
        Checks.gives(x, "it is", x.cutIn(1), 0);
        x.cut(1, false);
        x.blow(3, 0, 0);
        Checks.gives(x, "not in a lull", x.cutIn(1), 2);
        Checks.refuses(x, 1, "kite 3", () -> x.cutIn(3));
        Checks.refuses(x, 1, "kite -1", () -> x.cutIn(-1));
    }

    private static void flies(KiteLand x, int column, int row, int n, int hours, int... steps) {
        Checks.gives(x, "fly in " + n, x.fly(0, column, row, n), hours);
        for (int k = 0; k < n; k++) {
            Checks.gives(x, "step " + k + " of " + n, x.flyAt(k), steps[k]);
        }
        Checks.refuses(x, 6, "no step " + n, () -> x.flyAt(n));
    }

    static void promise44and45_fly() {
        KiteLand x = Checks.land("land 5 by 1;kite a at 0 0 size 0;");
        flies(x, 4, 0, 1, 0, 0);
        flies(x, 4, 0, 2, 1, 2, 2);
        flies(x, 4, 0, 3, 2, 2, 2, 0);
        flies(x, 4, 0, 4, 3, 2, 2, 0, 0);
        flies(x, 4, 0, 5, 4, 2, 2, 0, 0, 0);
        flies(x, 2, 0, 2, 2, 0, 0);
        flies(x, 3, 0, 1, 1, 2);
        flies(x, 0, 0, 5, 0, 0, 0, 0, 0, 0);
        Checks.due("the HAND stays", x.kite(0, 0), 0);
        Checks.due("WALKED", x.kite(0, 6), 0);
        Checks.due("HOUR", x.told(7), 0);
        x.cut(0, true);
        flies(x, 4, 0, 3, 0, 0, 0, 0);
    }

    static void promise44and45_byTheWindsOfTheHoursAndRows() {
        KiteLand x = Checks.land("land 3 by 3;wind 4 2 0;wind 5 4 1;wind 7 0 1;kite a at 1 1 size 0;");
        x.hour(4);
        // none in HOUR 4; one row south in HOUR 5; HOUR 6 goes two east, beyond the LAND from 1, 1
        flies(x, 1, 2, 2, 1, 0, 0);
        flies(x, 2, 1, 3, 1, 0, 0, 4);
        // HOUR 7 goes one north; HOURS 5 and 7 can be had both, 6 with none of them
        flies(x, 2, 1, 4, 2, 1, 2, 3, 3);
    }

    static void promise44and45_cutsAreTakenBack() {
        // in row 1 or 2 a CROSSES the longer b and is CUT
        KiteLand x = Checks.land("land 9 by 7;kite a at 0 1 size 0 string 6;kite b at 2 0 string 9 veers 2;");
        flies(x, 4, 1, 2, 0, 0, 0);
        flies(x, 4, 0, 1, 1, 1);
        flies(x, 4, 0, 3, 3, 1, 0, 0);
        Checks.due("nothing is CUT by asking", x.told(9), 0);
        KiteLand z = Checks.land("land 9 by 7;kite a at 8 6 size 0;kite b at 0 3 size 0;");
        Checks.gives(z, "the second KITE", z.fly(1, 3, 3, 2), 2);
        Checks.gives(z, "its step", z.flyAt(0), 2);
        // b is the shorter, and stands ahead of a by the law
        KiteLand y = Checks.land("land 9 by 7;law 2;kite a at 0 1 size 0 string 7;kite b at 2 0 size 2 string 6 veers 2;");
        flies(y, 4, 2, 1, 1, 3);
        Checks.gives(y, "without the CUT", y.shaders(4, 2, 0), 2);
    }

    static void promise44and45_wrongNumbers() {
        KiteLand x = Checks.land("land 5 by 1;kite a at 0 0 size 0;");
        Checks.refuses(x, 6, "ahead of any fly", () -> x.flyAt(0));
        Checks.refuses(x, 1, "below 0 ahead of any fly", () -> x.flyAt(-1));
        x.fly(0, 3, 0, 2);
        Checks.refuses(x, 1, "kite 1", () -> x.fly(1, 0, 0, 1));
        Checks.refuses(x, 1, "kite -1", () -> x.fly(-1, 0, 0, 1));
        Checks.refuses(x, 1, "column 5", () -> x.fly(0, 5, 0, 1));
        Checks.refuses(x, 1, "column -1", () -> x.fly(0, -1, 0, 1));
        Checks.refuses(x, 1, "row 1", () -> x.fly(0, 0, 1, 1));
        Checks.refuses(x, 1, "row -1", () -> x.fly(0, 0, -1, 1));
        Checks.refuses(x, 1, "n 0", () -> x.fly(0, 0, 0, 0));
        Checks.refuses(x, 1, "n 6", () -> x.fly(0, 0, 0, 6));
        Checks.refuses(x, 1, "below 0", () -> x.flyAt(-1));
        Checks.county(x, "land 1 by 1;");
        Checks.gives(x, "of the latest with STATUS 0", x.flyAt(0), 2);
        Checks.gives(x, "its second", x.flyAt(1), 0);
        Checks.refuses(x, 6, "no third", () -> x.flyAt(2));
    }
}
