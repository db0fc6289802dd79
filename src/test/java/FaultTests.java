/** Promise 12 (with 10 and 11): each FAULT of a COUNTY and of SEASONS at its place. */
final class FaultTests {
    private static final String LAND = "land 9 by 7;";
    private static final String FOLK = LAND + "kite a at 0 0;crop c at 0 0 wants 1;tenant t at 0 0 of a;";

    private FaultTests() {
    }

    /** The FAULT stands where the text has a #, which is no part of it. */
    private static void county(int kind, String marked) {
        told(new KiteLand(), kind, marked, true);
    }

    private static void seasons(int kind, String marked) {
        told(Checks.land(FOLK), kind, marked, false);
    }

    private static void told(KiteLand x, int kind, String marked, boolean isCounty) {
        int place = marked.indexOf('#');
        int n = Checks.feed(x, marked.replace("#", ""));
        int got = isCounty ? x.county(n) : x.seasons(n);
        Checks.due("answer of " + marked, got < 0, kind != 0);
        Checks.due("status of " + marked, x.status(), kind == 0 ? 0 : 9);
        Checks.due("fault of " + marked, x.fault(0), kind);
        Checks.due("place in " + marked, x.fault(1), place);
    }

    private static String many(int n, String start, String rest) {
        StringBuilder text = new StringBuilder();
        for (int i = 0; i < n; i++) {
            text.append(start).append((char) ('a' + i)).append(rest);
        }
        return text.toString();
    }

    static void promise12_ofTheLatestReading() {
        KiteLand x = new KiteLand();
        Checks.due("ahead of any", x.fault(0), -1);
        Checks.due("ahead of any", x.fault(1), -1);
        Checks.county(x, "land 0");
        Checks.due("fault", x.fault(0), 4);
        Checks.due("place", x.fault(1), 5);
        x.county(999);
        x.seasons(-1);
        Checks.due("behind STATUS 1", x.fault(0), 4);
        Checks.due("behind STATUS 1", x.fault(1), 5);
        Checks.seasons(x, "hour 1; hour 1");
        Checks.due("of seasons", x.fault(0), 2);
        Checks.due("of seasons", x.fault(1), 14);
        Checks.county(x, LAND);
        Checks.due("without one", x.fault(0), 0);
        Checks.due("without one", x.fault(1), -1);
        Checks.due("what 2", x.fault(2), -1);
        Checks.due("what -1", x.fault(-1), -1);
        Checks.seasons(x, "x");
        x.mark();
        x.undo();
        Checks.due("marks leave it alone", x.fault(0), 2);
    }

    static void promise12_noFault() {
        county(0, "");
        county(0, " \n ");
        county(0, "land9by7;noon11;law2;wind 0 7 3;");
        county(0, "land 0009 by\n0007\n;");
        county(0, LAND + "kite a at 8 6 size 2 string 9 needs 3 veers 7;kite b at 0 0 veers 0;kite d at 0 0 string 0 veers 1;");
        county(0, LAND + "kite zz at 0 0;crop zazz at 0 0 wants 1;tenant z at 0 0 of zz;");
        county(0, LAND + "crop abcdefgh at 0 0 wants 99;crop b at 8 6 wants 1;");
        county(0, LAND + "kite lan at 0 0;kite lands at 0 0;kite endd at 0 0;kite p at 0 0;");
        county(0, LAND + many(6, "kite k", " at 0 0;") + many(8, "crop c", " at 0 0 wants 1;") + many(6, "tenant t", " at 1 1 of kf;"));
        seasons(0, "");
        seasons(0, "hour 1;hour 3;walk a 1;walk a 4;cut a;mend a;any a;stop;");
        seasons(0, "when purse a<0;end;when purse a>9999;end;when purse a=5;end;when ripe c;end;when up a;end;");
        seasons(0, "loop 1;loop 99;when up a;hour 1;end;end;end;loop 2;end;");
        seasons(0, "stop;".repeat(30));
        seasons(0, "loop 1;end;".repeat(27));
    }

    static void promise12_kind1_noTokenBeginsSo() {
        county(1, "#A");
        county(1, "land 9 #-7;");
        county(1, "land #12345 by 3;");
        county(1, "#12345");
        county(1, "land 9 by 7#,");
        county(1, "land#\t9 by 7;");
        county(1, LAND + "kite #\u00e9 at 0 0;");
        county(1, LAND + "kite #A at 0 0;");
        county(1, LAND + "kite a at 0 0 #_size 1;");
        county(1, LAND + "noon #00001;");
        seasons(1, "hour #00001;");
        seasons(1, "hour 1;#!");
        seasons(1, "walk #A 1;");
        seasons(1, "when purse a #: 1;end;");
        seasons(1, "loop 1; hour 1; #\r end;");
    }

    static void promise12_kind2_itCannotStandThere() {
        county(2, "#kite a at 0 0;");
        county(2, "#wind 0 0 0;");
        county(2, "#x");
        county(2, "#;");
        county(2, "#7");
        county(2, "#mand 9 by 7;");
        county(2, "#lanb 9 by 7;");
        county(2, LAND + "#mind 0 0 0;");
        county(2, LAND + "#moon 1;");
        county(2, LAND + "kite z #zt 0 0;");
        county(2, "land#");
        county(2, "land  #");
        county(2, "land 9 #9");
        county(2, "land #by 9;");
        county(2, "land 9 by 7#");
        county(2, "land 9 by 7 #land 9 by 7;");
        county(2, LAND + "#;");
        county(2, LAND + "#lands 3;");
        county(2, LAND + "#hour 3;");
        county(2, LAND + "#size 3;");
        county(2, LAND + "wind 0 #;");
        county(2, LAND + "wind 0 0#");
        county(2, LAND + "noon #x;");
        county(2, LAND + "law 1 #2;");
        county(2, LAND + "kite #5 at 0 0;");
        county(2, LAND + "kite #abcdefghi at 0 0;");
        county(2, LAND + "kite #abcdefghijklmnopqrstuvwxyz at 0 0;");
        county(2, LAND + "kite a #0 0;");
        county(2, LAND + "kite a at 0 #;");
        county(2, LAND + "kite a at 0 0 string 1 #size 1;");
        county(2, LAND + "kite a at 0 0 veers 1 #needs 1;");
        county(2, LAND + "kite a at 0 0 size 1 #size 1;");
        county(2, LAND + "kite a at 0 0 needs#");
        county(2, LAND + "crop a at 0 0 #;");
        county(2, LAND + "crop a at 0 0 wants 1 #wants 1;");
        county(2, LAND + "kite a at 0 0;tenant t at 0 0 #;");
        county(2, LAND + "kite a at 0 0;tenant t at 0 0 of #of;");
        county(2, LAND + "kite a at 0 0;tenant t at 0 0 of #abcdefghi;");
        county(2, LAND + "kite a at 0 0 #< 3;");
        seasons(2, "#end;");
        seasons(2, "hour 1;#end;");
        seasons(2, "loop 2;hour 1;#");
        seasons(2, "loop 2;hour 1;end#");
        seasons(2, "when up a;#");
        seasons(2, "loop 2;end;#end;");
        seasons(2, "#kite");
        seasons(2, "#four 1;");
        seasons(2, "#zoop 1;");
        seasons(2, "#purse a<1;");
        seasons(2, "hour #a;");
        seasons(2, "hour 1 #1;");
        seasons(2, "hour#");
        seasons(2, "walk #1;");
        seasons(2, "walk a #;");
        seasons(2, "walk #abcdefghi 1;");
        seasons(2, "cut #cut;");
        seasons(2, "when #hour 1;");
        seasons(2, "when #a < 1;end;");
        seasons(2, "when purse a #5;end;");
        seasons(2, "when purse a #; end;");
        seasons(2, "when purse a < #= 5;end;");
        seasons(2, "when ripe #ripe;end;");
        seasons(2, "loop 1 #hour 1;end;");
        seasons(2, "stop #1;");
    }

    static void promise12_reservedWordsAreNoNames() {
        for (String word : ("land by wind noon law kite at size string needs veers crop wants tenant of hour walk cut mend"
                + " any when purse ripe up loop end stop").split(" ")) {
            county(2, LAND + "kite #" + word + " at 0 0;");
            county(2, LAND + "crop #" + word + " at 0 0 wants 1;");
            county(2, FOLK + "tenant #" + word + " at 0 0 of a;");
            county(2, FOLK + "tenant u at 0 0 of #" + word + ";");
            seasons(2, "any #" + word + ";");
            seasons(2, "when ripe #" + word + ";end;");
            county(0, LAND + "kite " + word.substring(1) + "x at 0 0;kite x" + word.substring(0, 1) + " at 0 0;");
        }
    }

    static void promise12_kind3_names() {
        county(3, LAND + "kite a at 0 0;kite #a at 0 0;");
        county(3, LAND + "kite a at 0 0;crop #a at 0 0 wants 1;");
        county(3, LAND + "crop a at 0 0 wants 1;kite #a at 0 0;");
        county(3, FOLK + "tenant #t at 0 0 of a;");
        county(3, FOLK + "tenant #a at 0 0 of a;");
        county(3, FOLK + "kite #t at 0 0;");
        county(3, LAND + "tenant t at 0 0 of #a;kite a at 0 0;");
        county(3, LAND + "tenant t at 0 0 of #t;");
        county(3, FOLK + "tenant u at 0 0 of #c;");
        county(3, FOLK + "tenant u at 0 0 of #t;");
        county(0, LAND + "kite a at 0 0;kite aa at 0 0;kite aaaaaaaa at 0 0;crop aaaaaaa at 0 0 wants 1;");
        seasons(3, "walk #b 1;");
        seasons(3, "cut #c;");
        seasons(3, "mend #t;");
        seasons(3, "any #x;");
        seasons(3, "when ripe #a;end;");
        seasons(3, "when ripe #t;end;");
        seasons(3, "when up #c;end;");
        seasons(3, "when purse #c < 1;end;");
    }

    static void promise12_kind4_numbers() {
        county(4, "land #0 by 1;");
        county(4, "land #10 by 1;");
        county(4, "land 1 by #0;");
        county(4, "land 1 by #8;");
        county(4, LAND + "wind #12 0 0;");
        county(4, LAND + "wind 0 #8 0;");
        county(4, LAND + "wind 0 0 #4;");
        county(4, LAND + "noon #12;");
        county(4, LAND + "law #3;");
        county(4, LAND + "kite a at #9 0;");
        county(4, LAND + "kite a at 0 #7;");
        county(4, "land 3 by 2;crop a at #3 0 wants 1;");
        county(4, "land 3 by 2;crop a at 2 #2 wants 1;");
        county(4, "land 3 by 2;kite a at 0 0;tenant t at 2 #2 of a;");
        county(4, LAND + "kite a at 0 0 size #3;");
        county(4, LAND + "kite a at 0 0 string #10;");
        county(4, LAND + "kite a at 0 0 needs #4;");
        county(4, LAND + "kite a at 0 0 veers #8;");
        county(4, LAND + "crop a at 0 0 wants #0;");
        county(4, LAND + "crop a at 0 0 wants #100;");
        county(4, LAND + "noon #9999;");
        seasons(4, "hour #0;");
        seasons(4, "hour #4;");
        seasons(4, "walk a #0;");
        seasons(4, "walk a #5;");
        seasons(4, "loop #0;end;");
        seasons(4, "loop #100;end;");
    }

    static void promise12_kind5_toldAlready() {
        county(5, LAND + "#land 1 by 1;");
        county(5, LAND + "kite a at 0 0;#land");
        county(5, LAND + "noon 6;#noon 6;");
        county(5, LAND + "law 0;wind 0 0 0;wind 0 0 0;#law");
        county(2, "#noon 6;noon 6;");
    }

    static void promise12_kind6_oneTooMany() {
        county(6, LAND + many(6, "kite k", " at 0 0;") + "#kite");
        county(6, LAND + many(6, "kite k", " at 0 0;") + "#kite A");
        county(6, LAND + many(8, "crop c", " at 0 0 wants 1;") + "#crop c");
        county(6, FOLK + many(5, "tenant t", " at 0 0 of a;") + "#tenant 7");
        seasons(6, "stop;".repeat(30) + "#stop;");
        seasons(6, "loop 1;end;".repeat(3) + "stop;".repeat(27) + "#hour 9;");
        seasons(2, "stop;".repeat(30) + "#end;");
        seasons(6, "loop 1;loop 1;loop 1;" + "stop;".repeat(27) + "#loop 1;");
    }

    static void promise12_kind7_tooDeep() {
        seasons(7, "loop 1;loop 1;loop 1;#loop 1;");
        seasons(7, "when up a;loop 1;when up a;#when");
        seasons(7, "loop 1;end;loop 1;loop 1;loop 1;end;loop 1;#when up A");
        seasons(0, "loop 1;loop 1;loop 1;end;loop 1;end;end;end;");
    }

    static void promise12_theFirstAlongTheText() {
        county(4, "land #0 by 1; A kite kite");
        county(3, LAND + "kite a at 0 0;kite #a at 99 0;");
        county(2, "land 1 #2 by A");
        seasons(3, "walk #b 9;");
        seasons(4, "hour #0;A");
    }
}
