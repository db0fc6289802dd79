import java.util.Map;
import java.util.TreeMap;
import java.util.function.Consumer;
import java.util.function.Function;

/** Edges that the document names: the last of each row, the least of each number, the end of a day. */
final class EdgeTests {
    private static final String LAND = "land 9 by 7;";

    private EdgeTests() {
    }

    private static String blanks(int n) {
        return " ".repeat(n);
    }

    static void promise05_theLastPlaceIsEmptyAnew() {
        KiteLand x = new KiteLand();
        x.tray(3, 3, 60);
        Checks.gives(x, "write", x.write(3, 59, 77));
        Checks.gives(x, "the last", x.read(3, 59), 77);
        x.tray(3, 3, 1);
        Checks.refuses(x, 3, "it is gone", () -> x.read(3, 59));
        x.tray(3, 3, 60);
        Checks.gives(x, "0 anew", x.read(3, 59), 0);
        Checks.gives(x, "one place", x.tray(0, 0, 1));
        Checks.gives(x, "its only", x.read(0, 0), 0);
        Checks.refuses(x, 3, "no second", () -> x.read(0, 1));
    }

    static void promise06_numbersNextToTheCut() {
        KiteLand x = new KiteLand();
        for (int sort = 0; sort < 3; sort++) {
            int bits = 8 << sort;
            long half = 1L << bits - 1;
            x.tray(sort, sort, 60);
            long[][] cuts = {{half - 1, half - 1}, {half, -half}, {half + 1, 1 - half}, {-half, -half}, {-half - 1, half - 1},
                {2 * half - 1, -1}, {2 * half, 0}, {2 * half + 1, 1}, {-2 * half, 0}, {Long.MAX_VALUE, -1}, {Long.MIN_VALUE, 0}};
            for (long[] cut : cuts) {
                Checks.gives(x, "write", x.write(sort, 59, cut[0]));
                Checks.gives(x, cut[0] + " by sort " + sort, x.read(sort, 59), cut[1]);
                Checks.gives(x, "beside it", x.read(sort, 58), 0);
            }
        }
    }

    static void promise08_theLastPlaces() {
        KiteLand x = new KiteLand();
        x.tray(0, 0, 60);
        x.tray(1, 0, 60);
        for (int i = 0; i < 60; i++) {
            x.write(0, i, i + 1);
        }
        Checks.gives(x, "all sixty", x.pour(0, 0, 1, 0, 60));
        Checks.gives(x, "the last", x.read(1, 59), 60);
        Checks.gives(x, "the last to the first", x.pour(0, 59, 1, 0, 1));
        Checks.gives(x, "there", x.read(1, 0), 60);
        Checks.gives(x, "the second stays", x.read(1, 1), 2);
        Checks.gives(x, "the first to the last", x.pour(0, 0, 1, 59, 1));
        Checks.gives(x, "there", x.read(1, 59), 1);
        Checks.gives(x, "59 onward in its own", x.pour(0, 0, 0, 1, 59));
        Checks.gives(x, "the first stays", x.read(0, 0), 1);
        Checks.gives(x, "the last", x.read(0, 59), 59);
        Checks.refusesFlag(x, 3, "60 onward", () -> x.pour(0, 0, 0, 1, 60));
        Checks.refusesFlag(x, 3, "60 from the second", () -> x.pour(0, 1, 0, 0, 60));
        Checks.gives(x, "none behind the last", x.pour(0, 60, 1, 60, 0));
        Checks.refusesFlag(x, 3, "none from place 61", () -> x.pour(0, 61, 1, 60, 0));
        Checks.refusesFlag(x, 3, "none to place 61", () -> x.pour(0, 60, 1, 61, 0));
        // a number is as it was in the TRAY, cut already
        Checks.tray(x, 2, 1, 65535);
        x.tray(3, 1, 1);
        x.pour(2, 0, 3, 0, 1);
        Checks.gives(x, "-1", x.read(3, 0), -1);
    }

    static void promise09_eachByteInItsOrder() {
        for (int place = 0; place < 20; place++) {
            KiteLand x = new KiteLand();
            int[] words = new int[5];
            for (int i = 0; i < 20; i++) {
                words[i / 4] = words[i / 4] << 8 | (i == place ? '!' : i % 2 == 0 ? ' ' : '\n');
            }
            Checks.due("feed", x.feed(words[0], words[1], words[2], words[3], words[4]), 20);
            Checks.due("county", x.county(20), -1);
            Checks.due("kind", x.fault(0), 1);
            Checks.due("place", x.fault(1), place);
        }
    }

    static void promise09_twentyMoreOrNothing() {
        KiteLand x = new KiteLand();
        Checks.feed(x, LAND + blanks(868));
        Checks.due("up to 900", x.feed(0x20202020, 0x20202020, 0x20202020, 0x20202020, 0x6c617731), 900);
        Checks.due("not 920", x.feed(0x20202020, 0x20202020, 0x20202020, 0x20202020, 0x20202020), -1);
        Checks.due("nor ever", x.feed(-1, -1, -1, -1, -1), -1);
        Checks.refuses(x, 1, "901", () -> x.county(901));
        Checks.due("all of it", x.county(900), -1);
        Checks.due("up to its last byte", x.fault(0) * 1000 + x.fault(1), 2900);
        Checks.due("empty behind a FAULT", x.feed(0, 0, 0, 0, 0), 20);
        Checks.refuses(x, 1, "21", () -> x.county(21));
        Checks.due("behind STATUS 1 it is as it was", x.feed(0, 0, 0, 0, 0), 40);
        Checks.due("empty behind seasons", x.seasons(0), 0);
        Checks.due("twenty", x.feed(0, 0, 0, 0, 0), 20);
    }

    static void promise12_eachByteByItself() {
        for (int sign = 0; sign < 256; sign++) {
            KiteLand x = new KiteLand();
            x.feed(sign << 24, 0, 0, 0, 0);
            boolean isBlank = sign == 10 || sign == 32;
            boolean beginsOne = ";<>=".indexOf(sign) >= 0 || sign >= 'a' && sign <= 'z' || sign >= '0' && sign <= '9';
            Checks.due("county of " + sign, x.county(1), isBlank ? 0 : -1);
            Checks.due("its fault", x.fault(0), isBlank ? 0 : beginsOne ? 2 : 1);
            Checks.due("its place", x.fault(1), isBlank ? -1 : 0);
        }
    }

    private static void county(int kind, String marked) {
        told(new KiteLand(), kind, marked, true);
    }

    private static void seasons(int kind, String marked) {
        told(Checks.land(LAND + "kite a at 0 0;kite abcdefgh at 1 1;crop c at 0 0 wants 1;"), kind, marked, false);
    }

    /** The FAULT stands where the text has a #, which is no part of it. */
    private static void told(KiteLand x, int kind, String marked, boolean isCounty) {
        int n = Checks.feed(x, marked.replace("#", ""));
        int got = isCounty ? x.county(n) : x.seasons(n);
        Checks.due("answer of " + marked, got < 0, kind != 0);
        Checks.due("fault of " + marked, x.fault(0), kind);
        Checks.due("place in " + marked, x.fault(1), marked.indexOf('#'));
    }

    static void promise12_leastAndGreatestNumbers() {
        county(0, "land 1 by 1;kite a at 0 0;crop b at 0 0 wants 1;tenant d at 0 0 of a;");
        county(0, LAND + "wind 0 0 0;wind 11 7 3;noon 0;law 0;");
        county(0, LAND + "noon 11;law 2;kite a at 8 6 size 2 string 9 needs 3 veers 7;crop b at 8 6 wants 99;tenant d at 8 6 of a;");
        county(0, LAND + "kite a at 0 0 size 0 string 0 needs 0 veers 0;crop b at 0 0 wants 0099;");
        county(4, "land 1 by 1;kite a at #1 0;");
        county(4, "land 1 by 1;kite a at 0 #1;");
        county(4, "land 1 by 1;crop a at #1 0 wants 1;");
        county(4, LAND + "kite a at 0 0;tenant t at #9 0 of a;");
        county(4, LAND + "kite a at 0 0;tenant t at 0 #7 of a;");
        county(4, "land #0000 by 7;");
        county(4, "land #9999 by 7;");
        seasons(0, "hour 1;hour 3;walk a 1;walk a 4;loop 1;end;loop 99;end;when purse a = 0;end;when purse a = 9999;end;");
        seasons(1, "when purse a < #10000;end;");
        seasons(1, "when purse a < #00000;end;");
    }

    static void promise12_namesOfEightLettersAndNine() {
        county(0, LAND + "kite abcdefgh at 0 0;tenant hgfedcba at 0 0 of abcdefgh;");
        county(2, LAND + "kite a at 0 0;tenant t at 0 0 of #abcdefghi;");
        county(2, LAND + "tenant #abcdefghi at 0 0 of a;");
        county(2, LAND + "crop #abcdefghi at 0 0 wants 1;");
        county(3, LAND + "kite abcdefgh at 0 0;tenant t at 0 0 of #abcdefg;");
        seasons(0, "walk abcdefgh 1;cut abcdefgh;mend abcdefgh;any abcdefgh;when up abcdefgh;end;when purse abcdefgh<1;end;");
        seasons(2, "cut #abcdefghi;");
        seasons(2, "mend #abcdefghi;");
        seasons(2, "any #abcdefghi;");
        seasons(2, "when up #abcdefghi;end;");
        seasons(2, "when ripe #abcdefghi;end;");
        seasons(2, "when purse #abcdefghi<1;end;");
        seasons(3, "cut #abcdefg;");
        // not the same by their last letters, nor by their first
        county(0, LAND + "kite abcdefgh at 0 0;kite bbcdefgh at 0 0;kite abcdefgg at 0 0;crop bcdefgh at 0 0 wants 1;");
    }

    static void promise12_theEndOfATextWithBlanks() {
        county(2, "land 9 by 7 \n #");
        county(2, LAND + "kite a at 0 0\n\n#");
        seasons(2, "hour 3 #");
        seasons(2, "loop 2; \n#");
        seasons(2, "when up a;loop 1;end;  #");
        seasons(2, "loop 1;loop 1;loop 1;end;end;#");
    }

    /** Each text cut short somewhere ends too early there, but behind a ; of a PART. */
    static void promise12_eachTextCutShort() {
        String text = LAND + "wind 3 4 1;noon 5;law 2;kite ab at 0 3 size 2 string 7 needs 1 veers 6;crop c at 8 6 wants 12;tenant t at 1 2 of ab;";
        for (int n = 0; n <= text.length(); n++) {
            KiteLand x = new KiteLand();
            Checks.feed(x, text);
            boolean isWhole = n == 0 || text.charAt(n - 1) == ';';
            Checks.due("the first " + n, x.county(n) >= 0, isWhole);
            int kind = x.fault(0);
            // a WORD or a NAME cut short can be the last, and no NAME is told ahead as a
            boolean isShortWord = kind == 2 && x.fault(1) < n || kind == 3;
            Checks.due("fault of " + n, kind == 0 || isShortWord || kind == 2 && x.fault(1) == n, true);
        }
    }

    static void promise11_threeHundredBytes() {
        KiteLand x = Checks.land(LAND + "kite a at 0 0;");
        String text = "loop 1;end;".repeat(26) + "loop 2;hour 3;";
        Checks.due("length", text.length(), 300);
        Checks.due("an end is left", Checks.seasons(x, text), -1);
        Checks.due("at the end", x.fault(0) * 1000 + x.fault(1), 2300);
        String whole = "loop 1;end;".repeat(26) + "hour 3 ;stop ;";
        Checks.gives(x, "300 bytes", Checks.seasons(x, whole), 28);
        Checks.gives(x, "live", x.live(0), 28);
        Checks.due("HOUR", x.told(7), 3);
        int n = Checks.feed(x, "hour 1;" + blanks(294));
        Checks.due("length", n, 301);
        Checks.refuses(x, 1, "301 bytes", () -> x.seasons(n));
        Checks.gives(x, "300 of them", x.seasons(300), 1);
    }

    static void promise10_whatWasTriedIsNoPartOfANewOne() {
        // a has a PURSE, c is GROWN, t TILLED, u is IDLE, v goes, b is CUT, by what would be
        String old = LAND + "kite a at 4 3 size 2 string 0;kite b at 3 2 string 3 veers 1;kite d at 4 2 string 3 veers 3;"
                + "crop c at 4 3 wants 9;tenant t at 4 3 of a;tenant u at 8 6 of b;tenant v at 8 6 of a;";
        String fresh = LAND + "kite a at 4 3;kite b at 3 2;kite d at 4 2;crop c at 4 3 wants 9;tenant t at 4 3 of a;"
                + "tenant u at 8 6 of b;tenant v at 8 6 of a;";
        String due = Shot.of(Checks.land(fresh));
        KiteLand x = Checks.land(old);
        // 9 by c, 9 by t, and 5 by v, who goes three HOURS, and one more at NOON
        Checks.gives(x, "PURSE in 9 HOURS", x.purseIn(0, 9), 9 + 9 + 5);
        Checks.gives(x, "b is CUT in", x.cutIn(1), 1);
        x.purseIn(0, 9);
        Checks.county(x, fresh);
        Checks.due("all behind purseIn", Shot.of(x), due);
        KiteLand y = Checks.land(old);
        Checks.seasons(y, "hour 3;walk a 1;walk a 1;");
        y.mean(0, 0, 3);
        Checks.county(y, fresh);
        Checks.due("all behind mean", Shot.of(y).replaceAll("^\\d+/\\d+", "0/1"), due);
    }

    static void promise13_setsOfTheLastOnes() {
        StringBuilder text = new StringBuilder("land 1 by 1;");
        for (char name = 'p'; name < 'v'; name++) {
            text.append("kite k").append(name).append(" at 0 0 string 0 needs ").append(name == 'u' ? 0 : 3).append(';');
        }
        for (char name = 'p'; name < 'x'; name++) {
            text.append("crop c").append(name).append(" at 0 0 wants ").append(name == 'w' ? 1 : 2).append(';');
        }
        KiteLand x = Checks.land(text.toString());
        Checks.gives(x, "the sixth is UP", x.told(8), 32);
        x.hour(1);
        Checks.gives(x, "the eighth is RIPE", x.told(10), 128);
        Checks.gives(x, "the sixth has all", x.kite(5, 5), 8);
        x.cut(5, true);
        Checks.gives(x, "the sixth is CUT", x.told(9), 32);
        Checks.gives(x, "none is UP", x.told(8), 0);
    }

    static void section2_theDayBeginsAnewBehindHourEleven() {
        KiteLand x = Checks.land("land 1 by 1;wind 0 0 0;wind 11 0 1;noon 11;kite a at 0 0 string 0;kite b at 0 0 string 0 needs 2;"
                + "crop c at 0 0 wants 99;");
        Checks.gives(x, "HOUR 0", x.told(8), 0);
        x.hour(11);
        Checks.gives(x, "HOUR 11", x.told(8), 1);
        x.hour(1);
        Checks.gives(x, "HOUR 12", x.told(8), 0);
        Checks.gives(x, "told", x.told(7), 12);
        x.hour(1);
        Checks.gives(x, "HOUR 13", x.told(8), 3);
        x.hour(10);
        Checks.gives(x, "HOUR 23", x.told(8), 1);
        x.hour(1);
        Checks.gives(x, "HOUR 24", x.told(8), 0);
        Checks.due("GROWN in all but the first of each day", x.crop(0, 3), 22);
        for (int i = 0; i < 101; i++) {
            x.hour(i < 100 ? 99 : 75);
        }
        Checks.gives(x, "HOUR 9,999 is 3 of the day", x.told(7) * 100 + x.told(8), 999903);
    }

    static void section2_noonOfEachHourAndSize() {
        for (int noon = 0; noon < 12; noon++) {
            KiteLand x = Checks.land(LAND + "noon " + noon + ";kite a at 4 3 size 0 string 0;kite b at 4 3 size 1 string 0;kite d at 4 3 size 2 string 0;law 2;");
            int[][] shades = {{1, 9, 25}, {1, 1, 9}};
            for (int hour = 0; hour < 12; hour++) {
                for (int kite = 0; kite < 3; kite++) {
                    for (int other = 0; other < 3; other++) {
                        x.cut(other, other != kite);
                    }
                    Checks.gives(x, "SIZE " + kite + " in HOUR " + hour + " by NOON " + noon, x.estate(kite, hour), shades[hour == noon ? 1 : 0][kite]);
                }
            }
        }
    }

    static void section2_upByJustTheForceItNeeds() {
        for (int needs = 0; needs < 4; needs++) {
            for (int force = 0; force < 4; force++) {
                KiteLand x = Checks.land("land 1 by 1;wind 0 0 " + force + ";kite a at 0 0 string 0 needs " + needs + ";");
                Checks.gives(x, "UP by " + force + " of " + needs, x.told(8), force >= needs ? 1 : 0);
                Checks.gives(x, "lull", x.lulls(0) & 1, force >= needs ? 0 : 1);
                Checks.gives(x, "SHADES", x.shaders(0, 0, 0), force >= needs ? 1 : 0);
            }
        }
    }

    static void section2_shadeAtTheEdgesOfTheLand() {
        // just in, and just out, on each side
        Object[][] places = {{"0 3 string 2 veers 4", 1, 3}, {"8 3 string 2", 1, 3}, {"4 0 string 2 veers 6", 1, 3},
            {"4 6 string 2 veers 2", 1, 3}, {"0 3 string 3 veers 4", 2, 0}, {"8 3 string 3", 2, 0}, {"4 0 string 3 veers 6", 2, 0},
            {"4 6 string 3 veers 2", 2, 0}, {"0 0 string 2 veers 5", 1, 1}, {"8 6 string 2 veers 1", 1, 1},
            {"0 6 string 2 veers 3", 1, 1}, {"8 0 string 2 veers 7", 1, 1}};
        for (Object[] place : places) {
            KiteLand x = Checks.land(LAND + "kite a at " + place[0] + ";");
            Checks.gives(x, "FIELDS of " + place[0], x.estate(0, 0), (Integer) place[2]);
            Checks.gives(x, "without it", x.nobodys(0), 63 - (Integer) place[2]);
        }
    }

    static void promise19_tiesGoToTheFirstByEachLaw() {
        KiteLand x = Checks.land("land 1 by 1;kite a at 0 0 size 1 string 0;kite b at 0 0 size 2 string 0;kite d at 0 0 size 2 string 0;kite e at 0 0 size 0 string 0;");
        Checks.gives(x, "LAW 0", x.owner(0, 0, 0), 0);
        x.rule(1);
        Checks.gives(x, "LAW 1, the first of the greatest", x.owner(0, 0, 0), 1);
        x.cut(1, true);
        Checks.gives(x, "LAW 1, the greatest left", x.owner(0, 0, 0), 2);
        x.cut(2, true);
        Checks.gives(x, "LAW 1, greater than the last", x.owner(0, 0, 0), 0);
        x.rule(2);
        Checks.refuses(x, 6, "LAW 2, two", () -> x.owner(0, 0, 0));
        x.cut(0, true);
        Checks.gives(x, "LAW 2, alone", x.owner(0, 0, 0), 3);
        x.cut(3, true);
        for (int law = 0; law < 3; law++) {
            x.rule(law);
            Checks.refuses(x, 6, "nobody", () -> x.owner(0, 0, 0));
        }
    }

    static void promise23and55_theLastField() {
        KiteLand x = Checks.land(LAND + "kite a at 8 6 size 0 string 0;kite b at 8 6 size 0 string 0;kite d at 0 0 string 0 needs 3;");
        Checks.gives(x, "disputed", x.disputed(0), 1);
        Checks.gives(x, "nobodys", x.nobodys(0), 62);
        x.cut(0, true);
        Checks.gives(x, "not disputed", x.disputed(0), 0);
        Checks.gives(x, "needed", x.needed(), 1);
        x.cut(0, false);
        x.walk(0, 1);
        Checks.gives(x, "of one FIELD each the first", x.needed(), 0);
        KiteLand y = Checks.land(LAND + "kite a at 0 0 size 0 string 0;kite b at 0 0 size 0 string 0;kite d at 8 6 size 0 string 0;");
        Checks.gives(y, "d has the last FIELD alone", y.needed(), 2);
        Checks.gives(y, "the first FIELD is disputed", y.disputed(0), 1);
    }

    static void promise24_theShortestThatCross() {
        // by 2 times 2 by 3 each is one FIELD long, from corner to corner
        KiteLand x = Checks.land(LAND + "kite a at 3 3 string 2 veers 1;kite b at 4 3 string 2 veers 3;kite d at 3 4 string 2 veers 7;kite e at 4 4 string 2 veers 5;");
        int[][] due = {{-1, 1, 1, 0}, {1, -1, 0, 1}, {1, 0, -1, 1}, {0, 1, 1, -1}};
        for (int a = 0; a < 4; a++) {
            for (int b = 0; b < 4; b++) {
                if (a != b) {
                    Checks.gives(x, a + " and " + b, x.crosses(a, b, 0), due[a][b]);
                }
            }
        }
        Checks.gives(x, "all", x.doomed(), 15);
    }

    static void promise25_theShorterOfAnyTwo() {
        String first = LAND + "kite a at 8 6 string 0;";
        KiteLand x = Checks.land(first + "kite b at 0 3 string 6;kite d at 2 1 string 7 veers 2;kite e at 8 0 string 0;");
        Checks.gives(x, "the second", x.doomed(), 2);
        x.sell(1, 2);
        Checks.gives(x, "the third", x.doomed(), 4);
        x.sell(1, -1);
        Checks.gives(x, "both", x.doomed(), 6);
        KiteLand y = Checks.land("land 9 by 7;kite k at 8 6 string 0;kite a at 8 6 string 0;kite b at 8 6 string 0;kite d at 8 6 string 0;"
                + "kite e at 0 3 string 6;kite f at 2 1 string 6 veers 2;");
        Checks.gives(y, "the last two", y.doomed(), 48);
        y.sell(4, 1);
        Checks.gives(y, "the last", y.doomed(), 32);
        y.sell(5, 2);
        Checks.gives(y, "the last but one", y.doomed(), 16);
        Checks.gives(y, "so it is", y.hour(1), 16);
    }

    static void promise27_theLastHour() {
        KiteLand x = Checks.land("land 9 by 7;kite a at 0 0 string 0;");
        x.blow(11, 0, 2);
        Checks.gives(x, "of all alike", x.busiest(), 0);
        StringBuilder text = new StringBuilder("land 9 by 7;kite a at 0 0 string 0 needs 3;");
        for (int hour = 0; hour < 11; hour++) {
            text.append("wind ").append(hour).append(" 0 2;");
        }
        KiteLand y = Checks.land(text + "wind 11 0 3;");
        Checks.gives(y, "HOUR 11", y.busiest(), 11);
        Checks.gives(y, "shaded", y.shaded());
        Checks.due("4 by 12", Checks.fraction(y), "1/3");
        Checks.gives(y, "lulls", y.lulls(0), 2047);
        Checks.gives(y, "plant in 11", y.planted(11), 0);
        Checks.gives(y, "plant in 12", y.planted(12), 1);
    }

    static void promise29_theNearestIsInTheLastRows() {
        KiteLand x = Checks.land(LAND + "kite a at 8 6 size 0 string 0;tenant t at 8 5 of a;tenant u at 7 6 of a;tenant v at 0 6 of a;tenant w at 8 0 of a;");
        x.hour(1);
        int[] due = {68, 68, 61, 18};
        for (int i = 0; i < 4; i++) {
            Checks.due("tenant " + i, x.tenant(i, 1) * 10 + x.tenant(i, 0), due[i]);
        }
        for (int row = 0; row < 7; row++) {
            KiteLand y = Checks.land(LAND + "kite a at 4 " + row + " size 0 string 0;tenant t at 4 0 of a;tenant u at 4 6 of a;");
            y.hour(1);
            Checks.due("from row 0 to " + row, y.tenant(0, 1), Math.min(row, 1));
            Checks.due("from row 6 to " + row, y.tenant(1, 1), Math.max(row, 5));
            y.hour(6);
            Checks.due("there", y.tenant(0, 1) * 10 + y.tenant(1, 1), row * 11);
            Checks.due("TILLED from row 0", y.tenant(0, 3), 7 - row);
            Checks.due("TILLED from row 6", y.tenant(1, 3), 1 + row);
            Checks.due("IDLE never", y.tenant(0, 4) + y.tenant(1, 4), 0);
        }
    }

    static void promise29_tiesByRowThenColumn() {
        // FIELDS of a around the one that b takes by LAW 1; from there each side is one step away
        String four = LAND + "law 1;kite a at 4 3 size 1 string 0;kite b at 4 3 size 2 string 0 needs 3;";
        KiteLand x = Checks.land(four + "tenant t at 6 3 of a;tenant u at 4 5 of a;tenant v at 2 3 of a;tenant w at 4 1 of a;");
        x.hour(1);
        int[] due = {35, 44, 33, 24};
        for (int i = 0; i < 4; i++) {
            Checks.due("tenant " + i, x.tenant(i, 1) * 10 + x.tenant(i, 0), due[i]);
        }
        // two FIELDS as near: the one of the lesser row, though its column is greater
        KiteLand y = Checks.land(LAND + "law 2;kite a at 4 3 string 0;kite b at 4 3 size 0 string 0;kite d at 4 2 size 0 string 0;kite e at 3 3 size 0 string 0;tenant t at 4 3 of a;");
        y.hour(1);
        Checks.due("east, ahead of south", y.tenant(0, 1) * 10 + y.tenant(0, 0), 35);
        // by a column first, then by a row
        KiteLand z = Checks.land(LAND + "kite a at 5 5 size 0 string 0;tenant t at 4 4 of a;tenant u at 6 6 of a;");
        z.hour(1);
        Checks.due("east", z.tenant(0, 1) * 10 + z.tenant(0, 0), 45);
        Checks.due("west", z.tenant(1, 1) * 10 + z.tenant(1, 0), 65);
        z.hour(1);
        Checks.due("south", z.tenant(0, 1) * 10 + z.tenant(0, 0), 55);
        Checks.due("north", z.tenant(1, 1) * 10 + z.tenant(1, 0), 55);
    }

    static void promise29_grownAtMostAndPursesAtMost() {
        KiteLand x = Checks.land("land 1 by 1;kite a at 0 0 string 0;crop c at 0 0 wants 99;crop d at 0 0 wants 98;");
        x.hour(97);
        Checks.due("RIPE in HOUR 97", x.told(10), 0);
        x.hour(1);
        Checks.due("RIPE in HOUR 98", x.told(10), 2);
        x.hour(1);
        Checks.due("RIPE in HOUR 99", x.told(10), 3);
        x.hour(1);
        Checks.due("GROWN", x.crop(0, 3), 99);
        Checks.due("PURSE", x.kite(0, 5), 200);
        for (int i = 0; i < 49; i++) {
            x.hour(99);
        }
        x.hour(48);
        Checks.due("PURSE", x.kite(0, 5), 9998);
        Checks.gives(x, "in 1", x.purseIn(0, 1), 9999);
        Checks.gives(x, "reap", x.reap(1), 0);
        Checks.due("PURSE at most", x.kite(0, 5), 9999);
        Checks.due("GROWN", x.crop(1, 3), 0);
        x.hour(1);
        Checks.due("PURSE at most", x.kite(0, 5), 9999);
        Checks.due("GROWN by 1", x.crop(1, 3), 1);
        Checks.gives(x, "share", x.share(0));
        Checks.due("all of it", Checks.fraction(x), "1/1");
        Checks.seasons(x, "when purse a = 9999;hour 1;end;when purse a < 9999;stop;end;when purse a > 9998;hour 2;end;");
        Checks.gives(x, "live", x.live(0), 5);
        Checks.due("HOURS", x.lived(1), 3);
    }

    static void promise37_ripeNowAndInOne() {
        KiteLand x = Checks.land("land 2 by 1;kite a at 0 0 size 0 string 0;crop c at 0 0 wants 1;crop d at 1 0 wants 1;");
        Checks.gives(x, "in 1", x.ripe(0), 1);
        Checks.refuses(x, 6, "never", () -> x.ripe(1));
        x.hour(1);
        Checks.gives(x, "now", x.ripe(0), 0);
        x.reap(0);
        Checks.gives(x, "anew", x.ripe(0), 1);
    }

    static void promise39_theLastFieldIsCountedAnew() {
        KiteLand x = Checks.land(LAND + "kite a at 8 6 size 0 string 0;");
        Checks.gives(x, "plant", x.plant(99), 68);
        Checks.gives(x, "planted", x.planted(99), 99);
        Checks.gives(x, "again", x.planted(99), 99);
        x.cut(0, true);
        Checks.gives(x, "none", x.planted(99), 0);
        Checks.gives(x, "the first", x.plant(99), 0);
        // the greater column of the lesser row is ahead of the lesser column
        KiteLand y = Checks.land(LAND + "kite a at 0 4 size 0 string 0;kite b at 8 3 size 0 string 0;");
        Checks.gives(y, "by row, then column", y.plant(1), 38);
        KiteLand z = Checks.land(LAND + "kite a at 5 3 size 0 string 0;kite b at 2 3 size 0 string 0;");
        Checks.gives(z, "by column", z.plant(1), 32);
    }

    static void promise43_aDayAtMost() {
        StringBuilder text = new StringBuilder(LAND);
        for (int hour = 0; hour < 11; hour++) {
            text.append("wind ").append(hour).append(" 2 1;");
        }
        KiteLand x = Checks.land(text + "kite a at 0 3 string 6;kite b at 2 1 string 6 veers 2;");
        Checks.gives(x, "behind HOUR 11", x.cutIn(0), 12);
        x.hour(11);
        Checks.gives(x, "behind this one", x.cutIn(0), 1);
        Checks.gives(x, "a deed of it", x.hour(1), 3);
        Checks.gives(x, "it is", x.cutIn(0), 0);
        x.cut(0, false);
        x.cut(1, false);
        Checks.gives(x, "behind HOUR 23", x.cutIn(1), 12);
    }

    static void promise46_oneAndTwentyNumbers() {
        KiteLand x = Checks.land(LAND + "kite a at 0 0 size 2 string 0;kite b at 8 6 size 0 string 0;");
        x.tray(0, 1, 60);
        for (int i = 0; i < 20; i++) {
            x.write(0, i, i % 9 / 3 * 10 + i % 3);
        }
        x.write(0, 20, 99);
        Checks.gives(x, "twenty", x.cover(0, 20, 0), 1);
        Checks.gives(x, "their set", x.coverSet(0, 20, 0), 1);
        x.write(0, 19, 68);
        Checks.gives(x, "twenty with the last FIELD", x.coverSet(0, 20, 11), 3);
        Checks.gives(x, "nineteen without", x.coverSet(0, 19, 11), 1);
        x.write(0, 0, 68);
        Checks.gives(x, "one", x.coverSet(0, 1, 0), 2);
        Checks.gives(x, "how many", x.cover(0, 1, 0), 1);
        x.write(0, 0, 67);
        Checks.refuses(x, 6, "no KITE SHADES it", () -> x.cover(0, 1, 0));
        x.write(0, 0, 69);
        Checks.refuses(x, 5, "no such FIELD", () -> x.cover(0, 1, 0));
    }

    static void promise49and50_theLastKiteAndColumnAgain() {
        StringBuilder text = new StringBuilder(LAND);
        for (char name = 'p'; name < 'u'; name++) {
            text.append("kite k").append(name).append(" at 0 0 needs 3;");
        }
        KiteLand x = Checks.land(text + "kite ku at 8 6 string 0;");
        x.tray(0, 0, 9);
        for (int i = 0; i < 3; i++) {
            Checks.gives(x, "strip", x.strip(5, 6, 0), 9);
            Checks.due("the sixth in the last row", Checks.row(x, 0, 9), "0 0 0 0 0 0 0 11 12");
            Checks.gives(x, "suspects", x.suspects(6, 0), 32);
            Checks.gives(x, "strips", x.strips(6), 2);
        }
        x.tray(1, 3, 60);
        x.write(1, 9, 5);
        Checks.gives(x, "to a long TRAY", x.strip(5, 5, 1), 9);
        Checks.due("its numbers", Checks.row(x, 1, 11), "0 0 0 0 0 0 0 11 11 5 0");
        Checks.gives(x, "one column", Checks.county(x, "land 1 by 1;kite a at 0 0 size 0 string 0;"), 1);
        x.tray(2, 0, 1);
        Checks.gives(x, "strip of one", x.strip(0, 0, 2), 1);
        Checks.gives(x, "12 HOURS", x.read(2, 0), 12);
        Checks.gives(x, "suspects of one", x.suspects(0, 2), 1);
        x.tray(2, 0, 0);
        Checks.refuses(x, 3, "none for one", () -> x.strip(0, 0, 2));
    }

    private static void duels(KiteLand x, int n, int lead, int step) {
        String before = Shot.of(x);
        Checks.gives(x, "duel in " + n, x.duel(0, 1, n), lead);
        Checks.gives(x, "step in " + n, x.duelStep(0, 1, n), step);
        Checks.due("all is as it was", Shot.of(x), before);
    }

    static void promise53and54_eachFirstStep() {
        String[] places = {"4 3", "4 2", "5 3", "4 4", "3 3"};
        for (int step = 0; step < 5; step++) {
            KiteLand x = Checks.land(LAND + "kite a at 4 3 size 0 string 0;kite b at " + places[step] + " size 0 string 0;");
            duels(x, 1, 1, step);
            // behind one step of b's away neither has more
            duels(x, 2, 0, 0);
            duels(x, 3, 1, step);
        }
    }

    static void promise53and54_byTheEdges() {
        // from corner to corner b always has a way to be two steps from a, but beside him it has none
        KiteLand x = Checks.land("land 2 by 2;kite a at 1 1 size 0 string 0;kite b at 0 0 size 0 string 0;");
        duels(x, 1, 0, 0);
        duels(x, 3, 0, 0);
        x.walk(1, 2);
        duels(x, 1, 1, 1);
        duels(x, 2, 0, 0);
        KiteLand y = Checks.land("land 1 by 1;kite a at 0 0 size 0 string 0;kite b at 0 0 size 0 string 0;");
        for (int n = 1; n < 5; n++) {
            duels(y, n, 1, 0);
        }
        y.rule(2);
        duels(y, 4, 0, 0);
        y.cut(0, true);
        duels(y, 4, -1, 0);
    }

    static void promise44_eachFirstStep() {
        String[] places = {"4 3", "4 4", "3 3", "4 2", "5 3"};
        for (int step = 0; step < 5; step++) {
            KiteLand x = Checks.land(LAND + "kite a at " + places[step] + " size 0 string 0;");
            Checks.gives(x, "in one HOUR", x.fly(0, 4, 3, 1), 1);
            Checks.gives(x, "its step", x.flyAt(0), step);
            Checks.gives(x, "in five HOURS", x.fly(0, 4, 3, 5), 5);
            Checks.gives(x, "its step", x.flyAt(0), step);
            for (int k = 1; k < 5; k++) {
                Checks.gives(x, "then stays", x.flyAt(k), 0);
            }
            Checks.refuses(x, 6, "no sixth", () -> x.flyAt(5));
        }
        KiteLand y = Checks.land(LAND + "kite a at 0 0 size 0 string 0;");
        // four steps away: of the rows of steps the first, east ahead of south
        Checks.gives(y, "in five HOURS", y.fly(0, 2, 2, 5), 2);
        int[] due = {2, 2, 3, 3, 0};
        for (int k = 0; k < 5; k++) {
            Checks.gives(y, "step " + k, y.flyAt(k), due[k]);
        }
        Checks.gives(y, "five steps away", y.fly(0, 3, 2, 5), 1);
        Checks.gives(y, "six steps away", y.fly(0, 3, 3, 5), 0);
    }

    static void promise58_nestedThreeDeepToTheStepThreeHundred() {
        KiteLand x = Checks.land(LAND + "kite a at 0 0;");
        Checks.seasons(x, "loop 99;loop 99;loop 99;end;end;end;");
        Checks.gives(x, "steps", x.live(0), 300);
        Checks.gives(x, "left", x.lived(4), 1);
        Checks.seasons(x, "loop 3;loop 99;end;loop 98;loop 1;end;end;end;");
        // 1 and three times 2 and 98
        Checks.gives(x, "steps", x.live(0), 300);
        Checks.gives(x, "left", x.lived(4), 1);
        Checks.seasons(x, "loop 3;loop 99;loop 1;end;end;end;");
        // 1 and three times 1 and 99 is one too many
        Checks.gives(x, "steps", x.live(0), 300);
        Checks.gives(x, "left", x.lived(4), 1);
        Checks.seasons(x, "loop 2;loop 99;loop 1;end;end;end;stop;");
        Checks.gives(x, "steps", x.live(0), 202);
        Checks.gives(x, "none left", x.lived(4), 0);
        Checks.seasons(x, "loop 3;loop 98;cut a;end;hour 1;end;stop;");
        Checks.gives(x, "steps", x.live(0), 300);
        Checks.gives(x, "the 301st is left", x.lived(4), 1);
        Checks.gives(x, "MISSED but the first", x.lived(0), 293);
    }

    static void promise58_thirtySteps() {
        KiteLand x = Checks.land(LAND + "kite a at 4 3;");
        Checks.gives(x, "thirty", Checks.seasons(x, "any a;".repeat(29) + "hour 1;"), 30);
        Checks.gives(x, "live", x.live(9999), 30);
        Checks.due("the last is done", x.told(7), 1);
        Checks.due("WALKED and MISSED", x.lived(2) + x.lived(0), 29);
        Checks.due("thirty-one", Checks.seasons(x, "any a;".repeat(30) + "hour 1;"), -1);
        Checks.due("its FAULT", x.fault(0) * 1000 + x.fault(1), 6180);
    }

    static void promise61_marksOutliveEachOther() {
        KiteLand x = Checks.land(LAND + "kite a at 4 3;");
        for (int i = 1; i <= 3; i++) {
            x.walk(0, 2);
            Checks.gives(x, "mark", x.mark(), i);
        }
        x.walk(0, 2);
        Checks.refuses(x, 4, "a fourth", () -> x.mark());
        Checks.due("nothing is taken back by that", x.kite(0, 0), 8);
        for (int i = 2; i >= 0; i--) {
            Checks.gives(x, "undo", x.undo(), i);
            Checks.due("column", x.kite(0, 0), 5 + i);
        }
        Checks.refuses(x, 6, "none left", () -> x.undo());
        Checks.due("nothing is taken back by that", x.kite(0, 0), 5);
        Checks.gives(x, "a first again", x.mark(), 1);
    }

    /** Each call as it can be answered. */
    private static Map<String, Function<KiteLand, Object>> goodCalls() {
        Map<String, Function<KiteLand, Object>> all = new TreeMap<>();
        all.put("tray", x -> x.tray(0, 0, 1));
        all.put("write", x -> x.write(1, 0, 1));
        all.put("read", x -> x.read(1, 0));
        all.put("pour", x -> x.pour(1, 0, 1, 0, 1));
        all.put("county", x -> x.county(0));
        all.put("seasons", x -> x.seasons(0));
        all.put("told", x -> x.told(0));
        all.put("wind", x -> x.wind(0, 0));
        all.put("kite", x -> x.kite(0, 0));
        all.put("crop", x -> x.crop(0, 0));
        all.put("tenant", x -> x.tenant(0, 0));
        all.put("stands", x -> x.stands(0, 0, 0));
        all.put("owner", x -> x.owner(0, 0, 0));
        all.put("shaders", x -> x.shaders(0, 0, 0));
        all.put("estate", x -> x.estate(0, 0));
        all.put("nobodys", x -> x.nobodys(0));
        all.put("disputed", x -> x.disputed(0));
        all.put("crosses", x -> x.crosses(0, 1, 0));
        all.put("doomed", x -> x.doomed());
        all.put("lulls", x -> x.lulls(0));
        all.put("busiest", x -> x.busiest());
        all.put("greatest", x -> x.greatest());
        all.put("hour", x -> x.hour(1));
        all.put("walk", x -> x.walk(0, 0));
        all.put("cut", x -> x.cut(0, true));
        all.put("sell", x -> x.sell(0, 1));
        all.put("blow", x -> x.blow(0, 0, 0));
        all.put("rule", x -> x.rule(0));
        all.put("lease", x -> x.lease(0, 1));
        all.put("reap", x -> x.reap(0));
        all.put("ripe", x -> x.ripe(0));
        all.put("leaseOf", x -> x.leaseOf(0, 0, 0, 1));
        all.put("plant", x -> x.plant(1));
        all.put("planted", x -> x.planted(1));
        all.put("purseIn", x -> x.purseIn(0, 1));
        all.put("tenantIn", x -> x.tenantIn(0, 1));
        all.put("cutIn", x -> x.cutIn(2));
        all.put("fly", x -> x.fly(0, 0, 0, 1));
        all.put("flyAt", x -> x.flyAt(0));
        all.put("cover", x -> x.cover(1, 1, 0));
        all.put("coverSet", x -> x.coverSet(1, 1, 0));
        all.put("settle", x -> x.settle(0));
        all.put("strip", x -> x.strip(0, 0, 1));
        all.put("suspects", x -> x.suspects(0, 1));
        all.put("telling", x -> x.telling());
        all.put("strips", x -> x.strips(0));
        all.put("duel", x -> x.duel(0, 1, 0));
        all.put("duelStep", x -> x.duelStep(0, 1, 1));
        all.put("needed", x -> x.needed());
        all.put("share", x -> x.share(0));
        all.put("shaded", x -> x.shaded());
        all.put("live", x -> x.live(0));
        all.put("lived", x -> x.lived(0));
        all.put("mean", x -> x.mean(0, 0, 1));
        all.put("mark", x -> x.mark());
        all.put("undo", x -> x.undo());
        return all;
    }

    static void promise02_statusIs0BehindEachGoodCallAndOthersLeaveIt() {
        Map<String, Function<KiteLand, Object>> all = goodCalls();
        Map<String, Consumer<KiteLand>> none = new TreeMap<>();
        none.put("status", x -> x.status());
        none.put("top", x -> x.top());
        none.put("bottom", x -> x.bottom());
        none.put("feed", x -> x.feed(0, 0, 0, 0, 0));
        none.put("fault", x -> x.fault(0));
        new Pair().methods().forEach(m -> Checks.due("tested: " + m.getName(), all.containsKey(m.getName()) || none.containsKey(m.getName()), true));
        none.forEach((name, call) -> {
            KiteLand x = new KiteLand();
            call.accept(x);
            Checks.due("status of a new object behind " + name, x.status(), 0);
            x.told(-1);
            call.accept(x);
            Checks.due("status 1 behind " + name, x.status(), 1);
            x.told(0);
            call.accept(x);
            Checks.due("status 0 behind " + name, x.status(), 0);
        });
        all.forEach((name, call) -> {
            KiteLand x = midst();
            x.told(-1);
            Checks.due("a refused call", x.status(), 1);
            call.apply(x);
            Checks.due("status behind " + name, x.status(), 0);
        });
    }

    static void promise02_statusIs0BehindEachThingTold() {
        int[] many = {11, 2, 8, 4, 5, 5, 2};
        for (int which = 0; which < many.length; which++) {
            for (int what = 0; what < many[which]; what++) {
                KiteLand x = midst();
                x.told(-1);
                switch (which) {
                    case 0: x.told(what); break;
                    case 1: x.wind(0, what); break;
                    case 2: x.kite(0, what); break;
                    case 3: x.crop(0, what); break;
                    case 4: x.tenant(0, what); break;
                    case 5: x.lived(what); break;
                    default: x.stands(0, 0, what); break;
                }
                Checks.due("status behind " + which + " by " + what, x.status(), 0);
            }
        }
    }

    private static KiteLand midst() {
        KiteLand x = Checks.land("land 4 by 3;kite a at 0 0 string 0;kite b at 3 2;kite d at 1 1;crop c at 0 0 wants 1;tenant t at 0 0 of a;");
        Checks.seasons(x, "hour 1;");
        x.live(0);
        x.fly(0, 0, 0, 1);
        x.cut(2, true);
        x.mark();
        x.tray(1, 0, 4);
        x.tray(2, 0, 3);
        return x;
    }

    private static String grand() {
        StringBuilder text = new StringBuilder(LAND).append("law 2;noon 0;wind 0 4 0;");
        for (char name = 'p'; name < 'v'; name++) {
            text.append("kite k").append(name).append(" at 8 6 size 2 needs 3;");
        }
        for (char name = 'p'; name < 'x'; name++) {
            text.append("crop c").append(name).append(" at 8 6 wants 99;");
        }
        for (char name = 'p'; name < 'v'; name++) {
            text.append("tenant t").append(name).append(" at 8 6 of ku;");
        }
        return text.toString();
    }

    /** A COUNTY read up to its FAULT, little or grand, is no part of any answer. */
    static void promise10_noCallSeesACountyThatWasNotTaken() {
        for (String text : new String[] {"x", grand() + "x"}) {
            goodCalls().forEach((name, call) -> {
                KiteLand twin = midst();
                KiteLand x = midst();
                Checks.county(x, text);
                Checks.due("a FAULT", x.status(), 9);
                String want = call.apply(twin) + " by " + twin.status();
                Checks.due(name + " behind a FAULT", call.apply(x) + " by " + x.status(), want);
            });
            badCalls().forEach((name, call) -> {
                KiteLand x = midst();
                Checks.county(x, text);
                Object got = call.apply(x);
                Checks.due(name + " behind a FAULT", String.valueOf(got), got instanceof Boolean ? "false" : "-1");
                Checks.due("its STATUS", x.status(), name.startsWith("too few") ? 3 : 1);
            });
            KiteLand none = new KiteLand();
            Checks.county(none, text);
            Checks.refuses(none, 6, "busiest", () -> none.busiest());
            Checks.county(none, text);
            Checks.refuses(none, 6, "plant", () -> none.plant(1));
            Checks.county(none, text);
            Checks.refuses(none, 6, "planted", () -> none.planted(1));
            Checks.county(none, text);
            Checks.refuses(none, 6, "telling", () -> none.telling());
            Checks.county(none, text);
            Checks.refusesFlag(none, 6, "shaded", () -> none.shaded());
            Checks.gives(none, "nobodys", none.nobodys(0), 0);
        }
    }

    /** Each call by a KITE, CROP, TENANT or FIELD just behind the last of midst(). */
    private static Map<String, Function<KiteLand, Object>> badCalls() {
        Map<String, Function<KiteLand, Object>> all = new TreeMap<>();
        all.put("kite", x -> x.kite(3, 0));
        all.put("crop", x -> x.crop(1, 0));
        all.put("tenant", x -> x.tenant(1, 0));
        all.put("stands", x -> x.stands(3, 0, 0));
        all.put("owner column", x -> x.owner(4, 0, 0));
        all.put("owner row", x -> x.owner(0, 3, 0));
        all.put("shaders column", x -> x.shaders(4, 0, 0));
        all.put("shaders row", x -> x.shaders(0, 3, 0));
        all.put("estate", x -> x.estate(3, 0));
        all.put("crosses a", x -> x.crosses(3, 0, 0));
        all.put("crosses b", x -> x.crosses(0, 3, 0));
        all.put("lulls", x -> x.lulls(3));
        all.put("walk", x -> x.walk(3, 0));
        all.put("cut", x -> x.cut(3, true));
        all.put("sell", x -> x.sell(3, 0));
        all.put("lease tenant", x -> x.lease(1, 1));
        all.put("lease kite", x -> x.lease(0, 3));
        all.put("reap", x -> x.reap(1));
        all.put("ripe", x -> x.ripe(1));
        all.put("leaseOf column", x -> x.leaseOf(4, 0, 0, 1));
        all.put("leaseOf row", x -> x.leaseOf(0, 3, 0, 1));
        all.put("leaseOf kite", x -> x.leaseOf(0, 0, 3, 1));
        all.put("purseIn", x -> x.purseIn(3, 1));
        all.put("tenantIn", x -> x.tenantIn(1, 1));
        all.put("cutIn", x -> x.cutIn(3));
        all.put("fly kite", x -> x.fly(3, 0, 0, 1));
        all.put("fly column", x -> x.fly(0, 4, 0, 1));
        all.put("fly row", x -> x.fly(0, 0, 3, 1));
        all.put("strip kite", x -> x.strip(3, 0, 1));
        all.put("strip row", x -> x.strip(0, 3, 1));
        all.put("suspects", x -> x.suspects(3, 1));
        all.put("strips", x -> x.strips(3));
        all.put("duel a", x -> x.duel(3, 0, 0));
        all.put("duel b", x -> x.duel(0, 3, 0));
        all.put("duelStep a", x -> x.duelStep(3, 0, 1));
        all.put("duelStep b", x -> x.duelStep(0, 3, 1));
        all.put("share", x -> x.share(3));
        all.put("mean", x -> x.mean(3, 0, 1));
        all.put("too few for strip", x -> x.strip(0, 0, 2));
        all.put("too few for suspects", x -> x.suspects(0, 2));
        return all;
    }

    static void promise12_faultTellsTwoThingsAlone() {
        KiteLand x = new KiteLand();
        Checks.county(x, "land 9 by 7; A");
        Checks.due("the FAULT", x.fault(0), 1);
        Checks.due("its place", x.fault(1), 13);
        for (int what : new int[] {-1, 2, 3, Integer.MIN_VALUE, Integer.MAX_VALUE}) {
            Checks.due("what " + what, x.fault(what), -1);
        }
    }

    static void promise12_theFirstFaultOfAKiteStays() {
        county(2, LAND + "kite a at 0 0 size #string 99;");
        county(2, LAND + "kite a at 0 0 size #needs 1 veers 9;");
        county(2, LAND + "kite a at 0 0 string #needs 9;");
        county(2, LAND + "kite a at 0 0 needs #veers 8 A");
        county(4, LAND + "kite a at 0 0 size #3 string 99 needs 99 veers 99;");
        county(4, LAND + "kite a at 0 0 size 2 string #10 needs 99 veers 99;");
        county(4, LAND + "kite a at 0 0 size 2 string 9 needs #4 veers 99;");
    }

    static void promise36_theOwnerOfItsOwnField() {
        KiteLand x = Checks.land("land 3 by 3;kite a at 0 0 size 0 string 0;kite b at 2 0 size 0 string 0;kite d at 0 2 size 0 string 0;"
                + "kite e at 2 2 size 0 string 0;crop p at 0 0 wants 1;crop q at 2 0 wants 2;crop r at 0 2 wants 3;crop s at 2 2 wants 4;crop u at 1 1 wants 1;");
        x.hour(4);
        for (int crop = 0; crop < 4; crop++) {
            Checks.gives(x, "reap " + crop, x.reap(crop), crop);
            Checks.due("its PURSE", x.kite(crop, 5), 4 + crop + 1);
        }
        Checks.refuses(x, 7, "nobody's", () -> x.reap(4));
    }

    static void promise58_aLoopLeftOffLeavesNoTrace() {
        KiteLand x = Checks.land(LAND + "kite a at 4 3;");
        Checks.seasons(x, "loop 99;stop;end;");
        Checks.gives(x, "a loop that is stopped", x.live(0), 2);
        Checks.seasons(x, "when up a;hour 1;end;");
        Checks.gives(x, "a when in its place", x.live(0), 2);
        Checks.gives(x, "one HOUR", x.lived(1), 1);
        Checks.seasons(x, "loop 2;hour 1;end;");
        Checks.gives(x, "a loop anew", x.live(0), 3);
        Checks.gives(x, "and anew", x.live(0), 3);
    }

    static void promise58_theHandOfACutKiteWalks() {
        KiteLand x = Checks.land(LAND + "kite a at 4 3;kite b at 0 0;");
        Checks.seasons(x, "hour 1;cut a;any a;walk a 2;mend a;any a;hour 1;");
        // by seed 0 the draws go west and south
        Checks.gives(x, "live", x.live(0), 7);
        Checks.due("column", x.kite(0, 0), 4);
        Checks.due("row", x.kite(0, 1), 4);
        Checks.gives(x, "WALKED", x.lived(2), 3);
        Checks.gives(x, "HOURS", x.lived(1), 2);
    }

    static void promise53and54_noHandLeavesTheLand() {
        // each KITE is two FIELDS beyond its HAND; to have b's FIELD a would have to go north out of the LAND
        KiteLand x = Checks.land(LAND + "kite a at 4 0 size 0 veers 2;kite b at 4 1 size 0 string 0;");
        Checks.gives(x, "it stands there", x.stands(0, 0, 1), 2);
        duels(x, 1, 0, 0);
        KiteLand east = Checks.land(LAND + "kite a at 8 3 size 0 veers 4;kite b at 7 3 size 0 string 0;");
        duels(east, 1, 0, 0);
        KiteLand south = Checks.land(LAND + "kite a at 4 6 size 0 veers 6;kite b at 4 5 size 0 string 0;");
        duels(south, 1, 0, 0);
        KiteLand west = Checks.land(LAND + "kite a at 0 3 size 0;kite b at 1 3 size 0 string 0;");
        duels(west, 1, 0, 0);
        west.walk(0, 2);
        west.walk(1, 2);
        duels(west, 1, 1, 4);
    }

    static void promise44_noHandLeavesTheLand() {
        KiteLand x = Checks.land(LAND + "kite a at 4 0 size 0 veers 2;");
        Checks.gives(x, "north of where it can stand", x.fly(0, 4, 1, 5), 0);
        KiteLand east = Checks.land(LAND + "kite a at 8 3 size 0 veers 4;");
        Checks.gives(east, "east", east.fly(0, 7, 3, 5), 0);
        KiteLand south = Checks.land(LAND + "kite a at 4 6 size 0 veers 6;");
        Checks.gives(south, "south", south.fly(0, 4, 5, 5), 0);
        KiteLand west = Checks.land(LAND + "kite a at 0 3 size 0;");
        Checks.gives(west, "west", west.fly(0, 1, 3, 5), 0);
        Checks.gives(west, "where it stands", west.fly(0, 2, 3, 5), 5);
    }

    static void promise29_theSetOfAllThatWereCutInThem() {
        // a and b CROSS in HOURS 0 on, d and e by the greater force of HOUR 2 alone
        String text = LAND + "wind 0 2 1;wind 1 2 1;kite a at 0 0 string 9 veers 1;kite b at 2 0 string 9 veers 3;kite f at 8 6 string 0;"
                + "kite d at 0 5 string 6;kite e at 2 4 string 6 veers 2;";
        KiteLand x = Checks.land(text);
        Checks.gives(x, "doomed", x.doomed(), 3);
        Checks.gives(x, "in three HOURS", x.hour(3), 3 + 8 + 16);
        KiteLand y = Checks.land(text);
        Checks.gives(y, "in the first", y.hour(1), 3);
        Checks.gives(y, "in the second", y.hour(1), 0);
        Checks.gives(y, "in the third", y.hour(1), 24);
        KiteLand z = Checks.land(text);
        Checks.seasons(z, "hour 1;hour 1;hour 1;");
        z.live(0);
        Checks.gives(z, "KITES that were CUT", z.lived(3), 4);
        z.cut(0, false);
        z.cut(1, false);
        z.live(0);
        Checks.gives(z, "each time anew", z.lived(3), 2);
    }

    static void section3_theLastHourIsNoBoundOfWhatWouldBe() {
        KiteLand x = Checks.land(LAND + "kite a at 0 3 string 6;kite b at 2 1 string 6 veers 2;crop c at 4 3 wants 99;tenant t at 0 0 of a;");
        x.cut(0, true);
        for (int i = 0; i < 101; i++) {
            x.hour(99);
        }
        x.cut(0, false);
        x.blow(3, 2, 0);
        x.blow(4, 2, 1);
        Checks.due("HOUR", x.told(7), 9999);
        Checks.gives(x, "cutIn goes on to HOUR 10,001", x.cutIn(0), 3);
        Checks.gives(x, "tenantIn: IDLE, then two HOURS by a's shade", x.tenantIn(0, 2), 1);
        Checks.gives(x, "leaseOf", x.leaseOf(2, 3, 0, 99), 1);
        Checks.gives(x, "plant", x.plant(3), 21);
        x.sell(0, 1);
        // ten HOURS of each day, but not the first two from now
        Checks.gives(x, "ripe", x.ripe(0), 9 * 12 + 2 + 9);
        Checks.refuses(x, 4, "but no HOUR goes by", () -> x.hour(1));
        Checks.gives(x, "all is as it was", x.told(7), 9999);
    }
}
