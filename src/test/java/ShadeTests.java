/** Promises 18 to 28: what is whose. Without more, winds are east by 2 and NOON is 6. */
final class ShadeTests {
    /** Shade of a: columns 1 to 3, rows 2 to 4; of b: columns 3 to 7, rows 1 to 5; of d: the FIELD 3, 3. */
    private static final String THREE = "land 9 by 7;kite a at 0 3;kite b at 3 3 size 2;kite d at 1 3 size 0;";

    private ShadeTests() {
    }

    static void promise18_byEachDirection() {
        int[][] due = {{4, 1}, {6, 1}, {6, 3}, {6, 5}, {4, 5}, {2, 5}, {2, 3}, {2, 1}};
        for (int direction = 0; direction < 8; direction++) {
            for (int veers = 0; veers < 8; veers++) {
                KiteLand x = Checks.land("land 9 by 7;kite a at 4 3 veers " + veers + ";wind 5 " + direction + " 2;");
                int[] place = due[(direction + veers) % 8];
                Checks.gives(x, "column by " + direction + " and " + veers, x.stands(0, 5, 0), place[0]);
                Checks.gives(x, "row by " + direction + " and " + veers, x.stands(0, 5, 1), place[1]);
            }
        }
    }

    static void promise18_asFarAsStringTimesForceByThree() {
        int[][] due = {{0, 0, 0}, {0, 0, 1}, {0, 1, 2}, {1, 2, 3}, {1, 2, 4}, {1, 3, 5}, {2, 4, 6}, {2, 4, 7}, {2, 5, 8}, {3, 6, 9}};
        for (int string = 0; string < 10; string++) {
            KiteLand x = Checks.land("land 9 by 7;kite a at 0 0 string " + string + ";wind 1 2 1;wind 3 2 3;");
            for (int hour = 1; hour < 4; hour++) {
                Checks.gives(x, "string " + string + " by " + hour, x.stands(0, hour, 0), due[string][hour - 1]);
            }
        }
    }

    static void promise18_beyondTheLandAndNotUp() {
        KiteLand x = Checks.land("land 2 by 2;kite a at 0 1 string 2 needs 0;kite b at 1 0 string 9 needs 3;"
                + "wind 0 6 2;wind 1 0 3;wind 2 3 0;");
        Checks.gives(x, "column -1", x.stands(0, 0, 0), -1);
        Checks.gives(x, "its row", x.stands(0, 0, 1), 1);
        Checks.gives(x, "row -1", x.stands(0, 1, 1), -1);
        Checks.gives(x, "row -9", x.stands(1, 1, 1), -9);
        Checks.gives(x, "no force, no needs", x.stands(0, 2, 0), 0);
        Checks.refuses(x, 6, "not UP by its needs", () -> x.stands(1, 0, 0));
        x.cut(0, true);
        Checks.refuses(x, 6, "CUT", () -> x.stands(0, 0, 0));
        Checks.refuses(x, 1, "kite -1", () -> x.stands(-1, 0, 0));
        Checks.refuses(x, 1, "kite 2", () -> x.stands(2, 0, 0));
        Checks.refuses(x, 1, "hour -1", () -> x.stands(0, -1, 0));
        Checks.refuses(x, 1, "hour 12", () -> x.stands(0, 12, 0));
        Checks.refuses(x, 1, "what -1", () -> x.stands(0, 0, -1));
        Checks.refuses(x, 1, "what 2", () -> x.stands(0, 0, 2));
    }

    static void promise19_ownerByLaws() {
        KiteLand x = Checks.land(THREE);
        int[][] due = {{0, 1, 0, -1}, {1, 1, 0, -1}, {-1, 1, 0, -1}};
        for (int law = 0; law < 3; law++) {
            x.rule(law);
            Checks.due("of all, law " + law, x.owner(3, 3, 0), due[law][0]);
            Checks.due("its status", x.status(), law == 2 ? 6 : 0);
            Checks.gives(x, "of b", x.owner(7, 5, 0), due[law][1]);
            Checks.gives(x, "of a", x.owner(1, 2, 0), due[law][2]);
            Checks.refuses(x, 6, "of none", () -> x.owner(0, 3, 0));
        }
        x.rule(0);
        x.cut(0, true);
        Checks.gives(x, "the first of those left", x.owner(3, 3, 0), 1);
        Checks.refuses(x, 6, "without a", () -> x.owner(1, 2, 0));
    }

    static void promise19_lawOneGoesBySizeAsTold() {
        // at NOON sizes 0 and 1 SHADE alike
        KiteLand x = Checks.land("land 9 by 7;noon 0;law 1;kite a at 0 3 size 0;kite b at 0 3 size 1;kite d at 0 3 size 1;");
        Checks.gives(x, "the greater", x.owner(2, 3, 0), 1);
        Checks.gives(x, "the first of the greatest", x.owner(3, 3, 1), 1);
        x.cut(1, true);
        Checks.gives(x, "of those left", x.owner(2, 3, 0), 2);
        Checks.gives(x, "all of them", x.shaders(2, 3, 0), 5);
    }

    static void promise19_edges() {
        KiteLand x = Checks.land(THREE);
        Checks.gives(x, "west edge", x.owner(1, 4, 0), 0);
        Checks.refuses(x, 6, "beyond the south edge", () -> x.owner(1, 5, 0));
        Checks.refuses(x, 6, "beyond the west edge", () -> x.owner(0, 2, 0));
        Checks.refuses(x, 1, "column -1", () -> x.owner(-1, 0, 0));
        Checks.refuses(x, 1, "column 9", () -> x.owner(9, 0, 0));
        Checks.refuses(x, 1, "row -1", () -> x.owner(0, -1, 0));
        Checks.refuses(x, 1, "row 7", () -> x.owner(0, 7, 0));
        Checks.refuses(x, 1, "hour -1", () -> x.owner(0, 0, -1));
        Checks.refuses(x, 1, "hour 12", () -> x.owner(0, 0, 12));
    }

    static void promise20_shaders() {
        KiteLand x = Checks.land(THREE);
        Checks.gives(x, "of all", x.shaders(3, 3, 0), 7);
        Checks.gives(x, "of a and b", x.shaders(3, 4, 0), 3);
        Checks.gives(x, "of none", x.shaders(0, 0, 0), 0);
        x.rule(2);
        Checks.gives(x, "whatever the law", x.shaders(3, 3, 0), 7);
        Checks.gives(x, "at NOON", x.shaders(3, 3, 6), 4);
        Checks.gives(x, "of b at NOON", x.shaders(4, 2, 6), 2);
        Checks.gives(x, "beyond b at NOON", x.shaders(3, 4, 6), 0);
        x.cut(1, true);
        Checks.gives(x, "CUT ones not", x.shaders(3, 3, 0), 5);
        x.blow(0, 2, 0);
        Checks.gives(x, "none is UP", x.shaders(3, 3, 0), 0);
        Checks.refuses(x, 1, "column 9", () -> x.shaders(9, 0, 0));
        Checks.refuses(x, 1, "row 7", () -> x.shaders(0, 7, 0));
        Checks.refuses(x, 1, "column -1", () -> x.shaders(-1, 0, 0));
        Checks.refuses(x, 1, "row -1", () -> x.shaders(0, -1, 0));
        Checks.refuses(x, 1, "hour 12", () -> x.shaders(0, 0, 12));
        Checks.refuses(x, 1, "hour -1", () -> x.shaders(0, 0, -1));
    }

    static void promise21_estate() {
        KiteLand x = Checks.land(THREE);
        Checks.gives(x, "all of a", x.estate(0, 0), 9);
        Checks.gives(x, "b without three", x.estate(1, 0), 22);
        Checks.gives(x, "nothing left", x.estate(2, 0), 0);
        Checks.gives(x, "d at NOON behind a", x.estate(2, 6), 1);
        Checks.gives(x, "a at NOON", x.estate(0, 6), 1);
        x.rule(1);
        Checks.gives(x, "a without three", x.estate(0, 0), 6);
        Checks.gives(x, "all of b", x.estate(1, 0), 25);
        x.rule(2);
        Checks.gives(x, "b alone", x.estate(1, 0), 22);
        x.walk(1, 2);
        x.walk(1, 2);
        x.walk(1, 2);
        Checks.gives(x, "the LAND's part of b", x.estate(1, 0), 15);
        Checks.refuses(x, 1, "kite 3", () -> x.estate(3, 0));
        Checks.refuses(x, 1, "kite -1", () -> x.estate(-1, 0));
        Checks.refuses(x, 1, "hour 12", () -> x.estate(0, 12));
        Checks.refuses(x, 1, "hour -1", () -> x.estate(0, -1));
    }

    static void promise22_nobodys() {
        KiteLand x = Checks.land(THREE);
        Checks.gives(x, "63 less 31", x.nobodys(0), 32);
        Checks.gives(x, "at NOON less 11", x.nobodys(6), 52);
        x.rule(2);
        Checks.gives(x, "by LAW 2 less 28", x.nobodys(0), 35);
        x.blow(3, 0, 0);
        Checks.gives(x, "all", x.nobodys(3), 63);
        Checks.refuses(x, 1, "hour 12", () -> x.nobodys(12));
        Checks.refuses(x, 1, "hour -1", () -> x.nobodys(-1));
        KiteLand y = new KiteLand();
        Checks.gives(y, "no LAND", y.nobodys(0), 0);
    }

    static void promise23_disputed() {
        KiteLand x = Checks.land(THREE);
        Checks.gives(x, "three", x.disputed(0), 3);
        x.rule(2);
        Checks.gives(x, "by each LAW", x.disputed(0), 3);
        Checks.gives(x, "at NOON none", x.disputed(6), 0);
        x.cut(1, true);
        Checks.gives(x, "without b", x.disputed(0), 1);
        Checks.refuses(x, 1, "hour 12", () -> x.disputed(12));
        Checks.refuses(x, 1, "hour -1", () -> x.disputed(-1));
    }

    /** a: from 0, 3 to 4, 3 (east, by 6 times 2 by 3); the other as told. */
    private static int crossesA(String other) {
        KiteLand x = Checks.land("land 9 by 7;kite a at 0 3 string 6;kite b at " + other + ";");
        int ab = x.crosses(0, 1, 0);
        Checks.gives(x, "the other way of " + other, x.crosses(1, 0, 0), ab);
        return ab;
    }

    static void promise24_crosses() {
        Checks.due("south through it", crossesA("2 1 string 6 veers 2"), 1);
        Checks.due("north through it", crossesA("2 5 string 6 veers 6"), 1);
        Checks.due("aslant through it", crossesA("1 1 string 6 veers 1"), 1);
        Checks.due("aslant the other way", crossesA("4 2 string 5 veers 3"), 1);
        Checks.due("its HAND on it", crossesA("2 3 string 6 veers 2"), 0);
        Checks.due("its KITE on it", crossesA("2 1 string 3 veers 2"), 0);
        Checks.due("through a's HAND", crossesA("0 1 string 6 veers 2"), 0);
        Checks.due("through a's KITE", crossesA("4 1 string 6 veers 2"), 0);
        Checks.due("along it", crossesA("1 3 string 3"), 0);
        Checks.due("the same", crossesA("0 3 string 6"), 0);
        Checks.due("head to head", crossesA("8 3 string 6 veers 4"), 0);
        Checks.due("beside it", crossesA("0 4 string 6"), 0);
        Checks.due("past it", crossesA("6 1 string 6 veers 2"), 0);
        Checks.due("too short", crossesA("2 0 string 4 veers 2"), 0);
        Checks.due("a point on it", crossesA("2 3 string 0"), 0);
        Checks.due("beyond the LAND", crossesA("3 2 string 9 veers 2"), 1);
        Checks.due("not UP", crossesA("2 1 string 6 needs 3 veers 2"), 0);
        KiteLand x = Checks.land("land 9 by 7;kite a at 0 0 string 6 veers 1;kite b at 3 0 string 6 veers 3;");
        Checks.gives(x, "between FIELDS", x.crosses(0, 1, 0), 1);
    }

    static void promise24_edges() {
        KiteLand x = Checks.land("land 9 by 7;kite a at 0 3 string 6;kite b at 2 1 string 6 veers 2;wind 3 2 1;wind 4 2 0;");
        Checks.gives(x, "by force 1", x.crosses(0, 1, 3), 0);
        Checks.gives(x, "by no force", x.crosses(0, 1, 4), 0);
        Checks.gives(x, "by force 2", x.crosses(0, 1, 5), 1);
        Checks.refuses(x, 1, "one and itself", () -> x.crosses(1, 1, 0));
        Checks.refuses(x, 1, "kite 2", () -> x.crosses(0, 2, 0));
        Checks.refuses(x, 1, "kite -1", () -> x.crosses(-1, 1, 0));
        Checks.refuses(x, 1, "hour 12", () -> x.crosses(0, 1, 12));
        Checks.refuses(x, 1, "hour -1", () -> x.crosses(0, 1, -1));
        x.cut(1, true);
        Checks.gives(x, "a CUT one", x.crosses(0, 1, 0), 0);
    }

    static void promise25_doomed() {
        KiteLand x = Checks.land("land 9 by 7;kite a at 0 3 string 6;kite b at 2 1 string 6 veers 2;wind 1 2 1;");
        Checks.gives(x, "both, if alike", x.doomed(), 3);
        x.sell(1, 1);
        Checks.gives(x, "the shorter", x.doomed(), 1);
        x.sell(1, -2);
        Checks.gives(x, "the other", x.doomed(), 2);
        Checks.due("nothing is CUT by asking", x.told(9), 0);
        x.blow(0, 2, 0);
        Checks.gives(x, "by this HOUR", x.doomed(), 0);
        KiteLand y = Checks.land("land 1 by 1;");
        Checks.gives(y, "nobody", y.doomed(), 0);
    }

    static void promise25_allAreAskedAhead() {
        // b CROSSES a and d, who are apart: b is shorter than a and longer than d
        KiteLand x = Checks.land("land 9 by 7;kite a at 0 2 string 7;kite b at 2 1 string 6 veers 2;kite d at 0 4 string 5;");
        Checks.due("a and b", x.crosses(0, 1, 0), 1);
        Checks.due("b and d", x.crosses(1, 2, 0), 1);
        Checks.due("a and d", x.crosses(0, 2, 0), 0);
        Checks.gives(x, "b, and d by the doomed b", x.doomed(), 6);
        // by STRING as told, not by how far it goes aslant
        KiteLand y = Checks.land("land 9 by 7;kite a at 0 3 string 7;kite b at 1 1 string 6 veers 1;");
        Checks.gives(y, "the lesser STRING", y.doomed(), 2);
        KiteLand z = Checks.land("land 9 by 7;kite a at 0 3 string 7;kite b at 2 1 string 6 veers 2;");
        Checks.gives(z, "as far, but less STRING", z.doomed(), 2);
    }

    static void promise26_lulls() {
        KiteLand x = Checks.land("land 1 by 1;kite a at 0 0 needs 2;kite b at 0 0 needs 0;kite d at 0 0 needs 3;"
                + "wind 0 0 1;wind 3 0 0;wind 11 0 1;wind 5 0 3;");
        Checks.gives(x, "below 2", x.lulls(0), 1 + 8 + 2048);
        Checks.gives(x, "none", x.lulls(1), 0);
        Checks.gives(x, "below 3", x.lulls(2), 4095 - 32);
        x.cut(0, true);
        Checks.gives(x, "CUT or not", x.lulls(0), 1 + 8 + 2048);
        Checks.refuses(x, 1, "kite 3", () -> x.lulls(3));
        Checks.refuses(x, 1, "kite -1", () -> x.lulls(-1));
    }

    static void promise27_busiest() {
        KiteLand x = Checks.land("land 9 by 7;kite a at 0 2;kite b at 0 2 veers 1;");
        Checks.gives(x, "the first of all alike", x.busiest(), 0);
        x.blow(0, 2, 0);
        Checks.gives(x, "HOUR 0 has none", x.busiest(), 1);
        x.blow(9, 4, 3);
        Checks.gives(x, "HOUR 9 goes out of the LAND in part", x.busiest(), 1);
        x.blow(10, 2, 3);
        Checks.gives(x, "apart by 3", x.busiest(), 10);
        x.cut(0, true);
        x.cut(1, true);
        Checks.gives(x, "none ever", x.busiest(), 0);
        KiteLand y = new KiteLand();
        Checks.refuses(y, 6, "no LAND", () -> y.busiest());
    }

    static void promise21to28_theFirstFieldAndTheLastKite() {
        KiteLand x = Checks.land("land 9 by 7;kite a at 0 0 size 0 string 0;kite b at 8 0 size 0 string 0;"
                + "kite d at 0 6 size 0 string 0;kite e at 8 6 size 0 string 0;kite f at 4 3 size 1 string 0;kite g at 0 0 size 1 string 0;");
        Checks.gives(x, "a has the first", x.estate(0, 0), 1);
        Checks.gives(x, "e has the last", x.estate(3, 0), 1);
        Checks.gives(x, "g has what is beside a", x.estate(5, 0), 3);
        Checks.gives(x, "both", x.shaders(0, 0, 0), 33);
        Checks.gives(x, "disputed", x.disputed(0), 1);
        Checks.gives(x, "nobodys", x.nobodys(0), 63 - 16);
        Checks.gives(x, "greatest", x.greatest(), 4);
        Checks.gives(x, "needed", x.needed(), 4);
        Checks.gives(x, "nobody is doomed", x.doomed(), 0);
        Checks.gives(x, "UP", x.told(8), 63);
        Checks.gives(x, "hour", x.hour(1), 0);
        Checks.gives(x, "telling", x.telling(), 0);
        Checks.refusesFlag(x, 6, "share", () -> x.share(5));
        x.cut(4, true);
        Checks.gives(x, "greatest without f", x.greatest(), 5);
        Checks.gives(x, "needed without f", x.needed(), 5);
        x.cut(5, true);
        Checks.gives(x, "CUT", x.told(9), 48);
        Checks.gives(x, "the first FIELD is a's alone", x.needed(), 0);
        Checks.gives(x, "nobodys", x.nobodys(0), 59);
        Checks.refuses(x, 1, "a seventh", () -> x.estate(6, 0));
    }

    static void promise28_greatest() {
        KiteLand x = Checks.land(THREE);
        Checks.gives(x, "b", x.greatest(), 1);
        x.cut(1, true);
        Checks.gives(x, "a", x.greatest(), 0);
        x.rule(2);
        Checks.gives(x, "a still", x.greatest(), 0);
        x.cut(0, true);
        Checks.gives(x, "d", x.greatest(), 2);
        x.cut(2, true);
        Checks.refuses(x, 6, "nobody", () -> x.greatest());
        KiteLand y = Checks.land("land 9 by 1;kite a at 0 0 size 0;kite b at 3 0 size 0;wind 1 2 0;");
        Checks.gives(y, "the first of two", y.greatest(), 0);
        y.hour(1);
        Checks.refuses(y, 6, "in this HOUR nobody", () -> y.greatest());
        KiteLand z = Checks.land("land 1 by 1;kite a at 0 0 string 0;kite b at 0 0 string 0;law 2;");
        Checks.refuses(z, 6, "no FIELD of theirs", () -> z.greatest());
    }
}
