import java.util.ArrayList;
import java.util.List;
import java.util.Map;
import java.util.TreeMap;
import java.util.function.Function;
import java.util.function.Supplier;

/**
 * Each call that is refused, with the first STATUS that holds: it gives NONE or false, and what comes behind it is as if
 * it had never been: each object is lived to its end beside a twin that was not asked.
 */
final class RefusalTests {
    private static final int MIN = Integer.MIN_VALUE;
    private static final int MAX = Integer.MAX_VALUE;
    private static final String TAPED = "land 3 by 2;kite k at 1 1;crop q at 2 1 wants 1;";
    private static final String FULL = "land 9 by 7;law 1;noon 3;wind 4 0 0;wind 5 1 1;kite a at 0 3;kite b at 3 3 size 2 string 9 needs 2;"
            + "kite d at 0 0 size 0 string 0;crop c at 2 3 wants 2;crop e at 0 6 wants 1;tenant t at 2 2 of a;tenant u at 8 6 of b;";

    private final Supplier<KiteLand> setup;
    private final Map<String, Function<KiteLand, Object>> calls = new TreeMap<>();

    private RefusalTests(Supplier<KiteLand> setup) {
        this.setup = setup;
    }

    /** TRAYS 0 (sort 0, five numbers), 1 (sort 2, nine), 2 (sort 0, none); 3 is MISSING. One MARK; c is RIPE. */
    private static KiteLand full() {
        KiteLand x = Checks.land(FULL);
        Checks.seasons(x, "hour 1;any a;walk b 4;");
        x.mark();
        x.hour(3);
        x.live(5);
        Checks.seasons(x, "hour 2;any b;loop 2;mend a;end;");
        x.cut(2, true);
        x.fly(0, 4, 3, 3);
        x.shaded();
        Checks.tray(x, 0, 0, 33, 21, -1, 0, 9);
        Checks.tray(x, 1, 2, 0, 11, 12, 11, 0, 0, 0, 0, 70);
        x.tray(2, 0, 0);
        Checks.feed(x, TAPED);
        return x;
    }

    /** The last HOUR, all MARKS. */
    private static KiteLand late() {
        KiteLand x = full();
        x.mark();
        x.mark();
        for (int i = 0; i < 100; i++) {
            x.hour(99);
        }
        x.hour(9999 - x.told(7));
        return x;
    }

    private static KiteLand corner() {
        KiteLand x = Checks.land("land 1 by 1;wind 1 0 0;kite a at 0 0 string 9;kite b at 0 0 string 0 needs 3;crop c at 0 0 wants 1;"
                + "crop e at 0 0 wants 2;tenant t at 0 0 of b;");
        x.cut(1, true);
        return x;
    }

    private static String after(KiteLand x) {
        StringBuilder text = new StringBuilder(Shot.of(x)).append(Shot.asked(x));
        for (int i = 0; i < 4; i++) {
            text.append("\nlive ").append(x.live(i)).append(' ').append(x.status()).append(' ').append(Shot.of(x));
            text.append("\nundo ").append(x.undo()).append(' ').append(x.status()).append(' ').append(Shot.of(x));
        }
        text.append("\ntape ").append(x.feed(0, 0, 0, 0, 0)).append(' ').append(x.county(TAPED.length())).append(' ').append(Shot.of(x));
        return text.toString();
    }

    private void add(String name, Function<KiteLand, Object> call) {
        calls.put(name, call);
    }

    private void refuse(int status) {
        String due = after(setup.get());
        calls.forEach((name, call) -> {
            KiteLand x = setup.get();
            Object got = call.apply(x);
            boolean isNothing = got instanceof Boolean ? !(Boolean) got : ((Number) got).longValue() == KiteLand.NONE;
            Checks.due("nothing given by " + name + ", but " + got, isNothing, true);
            Checks.due("status behind " + name, x.status(), status);
            Checks.due("what comes behind " + name + " is as without it", after(x).equals(due), true);
        });
        calls.clear();
    }

    private static int[] outside(int least, int most) {
        return new int[] {least - 1, most + 1, MIN, MAX};
    }

    static void status1_trays() {
        RefusalTests t = new RefusalTests(RefusalTests::full);
        for (int v : outside(0, 3)) {
            t.add("tray tray " + v, x -> x.tray(v, 0, 1));
            t.add("tray sort " + v, x -> x.tray(0, v, 1));
            t.add("write tray " + v, x -> x.write(v, 0, 1));
            t.add("write tray ahead of its place " + v, x -> x.write(v, -1, 1));
            t.add("read tray " + v, x -> x.read(v, 0));
            t.add("read tray ahead of its place " + v, x -> x.read(v, 60));
            t.add("pour from " + v, x -> x.pour(v, 0, 0, 0, 1));
            t.add("pour to " + v, x -> x.pour(0, 0, v, 0, 1));
            t.add("pour to ahead of MISSING " + v, x -> x.pour(3, 0, v, 0, 1));
            t.add("cover " + v, x -> x.cover(v, 1, 0));
            t.add("coverSet " + v, x -> x.coverSet(v, 1, 0));
            t.add("strip " + v, x -> x.strip(0, 0, v));
            t.add("suspects " + v, x -> x.suspects(0, v));
        }
        for (int v : outside(0, 60)) {
            t.add("tray many " + v, x -> x.tray(3, 0, v));
        }
        for (int v : new int[] {-1, MIN}) {
            t.add("pour place " + v, x -> x.pour(0, v, 0, 0, 1));
            t.add("pour at " + v, x -> x.pour(0, 0, 0, v, 1));
            t.add("pour many " + v, x -> x.pour(0, 0, 0, 0, v));
            t.add("pour place ahead of MISSING " + v, x -> x.pour(3, v, 0, 0, 1));
            t.add("pour at ahead of unlike " + v, x -> x.pour(0, 0, 1, v, 1));
            t.add("pour many ahead of unlike " + v, x -> x.pour(1, 0, 0, 0, v));
        }
        t.refuse(1);
    }

    static void status1_texts() {
        RefusalTests t = new RefusalTests(RefusalTests::full);
        for (int v : outside(0, 60)) {
            t.add("county " + v, x -> x.county(v));
            t.add("seasons " + v, x -> x.seasons(v));
        }
        t.add("county far above its tape", x -> x.county(900));
        t.add("seasons far above its tape", x -> x.seasons(300));
        t.add("seasons above 300", x -> x.seasons(301));
        for (int v : outside(0, 10)) {
            t.add("told " + v, x -> x.told(v));
        }
        for (int v : outside(0, 1)) {
            t.add("wind what " + v, x -> x.wind(0, v));
            t.add("crop crop " + v, x -> x.crop(v, 0));
            t.add("tenant tenant " + v, x -> x.tenant(v, 0));
        }
        for (int v : outside(0, 11)) {
            t.add("wind hour " + v, x -> x.wind(v, 0));
        }
        for (int v : outside(0, 2)) {
            t.add("kite kite " + v, x -> x.kite(v, 0));
        }
        for (int v : outside(0, 7)) {
            t.add("kite what " + v, x -> x.kite(0, v));
        }
        for (int v : outside(0, 3)) {
            t.add("crop what " + v, x -> x.crop(0, v));
        }
        for (int v : outside(0, 4)) {
            t.add("tenant what " + v, x -> x.tenant(0, v));
        }
        t.refuse(1);
    }

    static void status1_kites() {
        RefusalTests t = new RefusalTests(RefusalTests::full);
        for (int v : outside(0, 2)) {
            t.add("stands " + v, x -> x.stands(v, 0, 0));
            t.add("estate " + v, x -> x.estate(v, 0));
            t.add("crosses a " + v, x -> x.crosses(v, 0, 0));
            t.add("crosses b " + v, x -> x.crosses(0, v, 0));
            t.add("crosses both " + v, x -> x.crosses(v, v, 0));
            t.add("lulls " + v, x -> x.lulls(v));
            t.add("walk " + v, x -> x.walk(v, 0));
            t.add("cut " + v, x -> x.cut(v, true));
            t.add("mend " + v, x -> x.cut(v, false));
            t.add("sell " + v, x -> x.sell(v, 0));
            t.add("lease kite " + v, x -> x.lease(0, v));
            t.add("leaseOf kite " + v, x -> x.leaseOf(0, 0, v, 1));
            t.add("purseIn " + v, x -> x.purseIn(v, 0));
            t.add("cutIn " + v, x -> x.cutIn(v));
            t.add("fly " + v, x -> x.fly(v, 0, 0, 1));
            t.add("strip " + v, x -> x.strip(v, 0, 1));
            t.add("duel a " + v, x -> x.duel(v, 0, 0));
            t.add("duel b " + v, x -> x.duel(0, v, 0));
            t.add("duelStep a " + v, x -> x.duelStep(v, 0, 1));
            t.add("duelStep b " + v, x -> x.duelStep(0, v, 1));
            t.add("share " + v, x -> x.share(v));
            t.add("mean " + v, x -> x.mean(v, 0, 1));
        }
        for (int v = 0; v < 3; v++) {
            int same = v;
            t.add("crosses itself " + v, x -> x.crosses(same, same, 0));
            t.add("duel itself " + v, x -> x.duel(same, same, 0));
            t.add("duelStep itself " + v, x -> x.duelStep(same, same, 1));
        }
        t.refuse(1);
    }

    static void status1_fieldsCropsTenantsHours() {
        RefusalTests t = new RefusalTests(RefusalTests::full);
        for (int v : outside(0, 8)) {
            t.add("owner column " + v, x -> x.owner(v, 0, 0));
            t.add("shaders column " + v, x -> x.shaders(v, 0, 0));
            t.add("leaseOf column " + v, x -> x.leaseOf(v, 0, 0, 1));
            t.add("fly column " + v, x -> x.fly(0, v, 0, 1));
        }
        for (int v : outside(0, 6)) {
            t.add("owner row " + v, x -> x.owner(0, v, 0));
            t.add("shaders row " + v, x -> x.shaders(0, v, 0));
            t.add("leaseOf row " + v, x -> x.leaseOf(0, v, 0, 1));
            t.add("fly row " + v, x -> x.fly(0, 0, v, 1));
            t.add("strip row " + v, x -> x.strip(0, v, 1));
            t.add("strip row ahead of MISSING " + v, x -> x.strip(0, v, 3));
            t.add("suspects row " + v, x -> x.suspects(v, 1));
            t.add("suspects row ahead of too few " + v, x -> x.suspects(v, 0));
            t.add("strips row " + v, x -> x.strips(v));
        }
        for (int v : outside(0, 1)) {
            t.add("reap " + v, x -> x.reap(v));
            t.add("ripe " + v, x -> x.ripe(v));
            t.add("lease tenant " + v, x -> x.lease(v, 1));
            t.add("tenantIn " + v, x -> x.tenantIn(v, 0));
            t.add("stands what " + v, x -> x.stands(0, 0, v));
            t.add("stands what ahead of not UP " + v, x -> x.stands(2, 0, v));
        }
        for (int v : outside(0, 11)) {
            t.add("stands hour " + v, x -> x.stands(0, v, 0));
            t.add("owner hour " + v, x -> x.owner(0, 0, v));
            t.add("shaders hour " + v, x -> x.shaders(0, 0, v));
            t.add("estate hour " + v, x -> x.estate(0, v));
            t.add("nobodys hour " + v, x -> x.nobodys(v));
            t.add("disputed hour " + v, x -> x.disputed(v));
            t.add("crosses hour " + v, x -> x.crosses(0, 1, v));
            t.add("blow hour " + v, x -> x.blow(v, 0, 0));
            t.add("cover hour " + v, x -> x.cover(0, 1, v));
            t.add("coverSet hour ahead of MISSING " + v, x -> x.coverSet(3, 1, v));
        }
        t.refuse(1);
    }

    static void status1_howManyAndHowMuch() {
        RefusalTests t = new RefusalTests(RefusalTests::full);
        Map<String, int[]> bounds = new TreeMap<>();
        List<Object[]> all = new ArrayList<>();
        all.add(new Object[] {"hour", 1, 99, (Of) (x, v) -> x.hour(v)});
        all.add(new Object[] {"walk", 0, 4, (Of) (x, v) -> x.walk(0, v)});
        all.add(new Object[] {"sell", -9, 9, (Of) (x, v) -> x.sell(0, v)});
        all.add(new Object[] {"blow direction", 0, 7, (Of) (x, v) -> x.blow(0, v, 0)});
        all.add(new Object[] {"blow force", 0, 3, (Of) (x, v) -> x.blow(0, 0, v)});
        all.add(new Object[] {"rule", 0, 2, (Of) (x, v) -> x.rule(v)});
        all.add(new Object[] {"leaseOf", 0, 99, (Of) (x, v) -> x.leaseOf(0, 0, 0, v)});
        all.add(new Object[] {"plant", 1, 99, (Of) (x, v) -> x.plant(v)});
        all.add(new Object[] {"planted", 1, 99, (Of) (x, v) -> x.planted(v)});
        all.add(new Object[] {"purseIn", 0, 99, (Of) (x, v) -> x.purseIn(0, v)});
        all.add(new Object[] {"tenantIn", 0, 99, (Of) (x, v) -> x.tenantIn(0, v)});
        all.add(new Object[] {"fly", 1, 5, (Of) (x, v) -> x.fly(0, 0, 0, v)});
        all.add(new Object[] {"cover", 1, 20, (Of) (x, v) -> x.cover(0, v, 0)});
        all.add(new Object[] {"cover ahead of MISSING", 1, 20, (Of) (x, v) -> x.cover(3, v, 0)});
        all.add(new Object[] {"coverSet", 1, 20, (Of) (x, v) -> x.coverSet(0, v, 0)});
        all.add(new Object[] {"settle", 0, 20, (Of) (x, v) -> x.settle(v)});
        all.add(new Object[] {"duel", 0, 4, (Of) (x, v) -> x.duel(0, 1, v)});
        all.add(new Object[] {"duelStep", 1, 4, (Of) (x, v) -> x.duelStep(0, 1, v)});
        all.add(new Object[] {"live", 0, 9999, (Of) (x, v) -> x.live(v)});
        all.add(new Object[] {"lived", 0, 4, (Of) (x, v) -> x.lived(v)});
        all.add(new Object[] {"mean seed", 0, 9999, (Of) (x, v) -> x.mean(0, v, 1)});
        all.add(new Object[] {"mean last seed", 0, 9980, (Of) (x, v) -> x.mean(0, v, 20)});
        all.add(new Object[] {"mean many", 1, 20, (Of) (x, v) -> x.mean(0, 0, v)});
        for (Object[] one : all) {
            bounds.put((String) one[0], new int[] {(Integer) one[1], (Integer) one[2]});
            for (int v : outside((Integer) one[1], (Integer) one[2])) {
                t.add(one[0] + " " + v, x -> ((Of) one[3]).answer(x, v));
            }
        }
        t.add("flyAt -1", x -> x.flyAt(-1));
        t.add("flyAt far below", x -> x.flyAt(MIN));
        t.refuse(1);
        // and the least and the greatest that can be are not refused so
        for (Object[] one : all) {
            for (int v : bounds.get((String) one[0])) {
                KiteLand x = full();
                ((Of) one[3]).answer(x, v);
                Checks.due(one[0] + " " + v + " can be, but has STATUS " + x.status(), x.status() != 1, true);
            }
        }
    }

    /** A call by one of its numbers. */
    private interface Of {
        Object answer(KiteLand x, int v);
    }

    static void status2_missingTrays() {
        RefusalTests t = new RefusalTests(RefusalTests::full);
        t.add("write", x -> x.write(3, 0, 1));
        t.add("write ahead of its place", x -> x.write(3, -1, 1));
        t.add("read", x -> x.read(3, 0));
        t.add("read ahead of its place", x -> x.read(3, MAX));
        t.add("pour from", x -> x.pour(3, 0, 0, 0, 0));
        t.add("pour to", x -> x.pour(0, 0, 3, 0, 0));
        t.add("pour to itself", x -> x.pour(3, 0, 3, 0, 0));
        t.add("pour ahead of places", x -> x.pour(0, 99, 3, 99, 99));
        t.add("cover", x -> x.cover(3, 1, 0));
        t.add("coverSet", x -> x.coverSet(3, 20, 11));
        t.add("strip", x -> x.strip(0, 0, 3));
        t.add("suspects", x -> x.suspects(0, 3));
        t.refuse(2);
    }

    static void status3_placesAndTooFew() {
        RefusalTests t = new RefusalTests(RefusalTests::full);
        for (int v : outside(0, 4)) {
            t.add("write " + v, x -> x.write(0, v, 1));
            t.add("read " + v, x -> x.read(0, v));
        }
        t.add("write to none", x -> x.write(2, 0, 1));
        t.add("read of none", x -> x.read(2, 0));
        t.add("pour too many", x -> x.pour(0, 0, 0, 0, 6));
        t.add("pour too many behind", x -> x.pour(0, 1, 0, 0, 5));
        t.add("pour too many there", x -> x.pour(0, 0, 0, 1, 5));
        t.add("pour to none", x -> x.pour(0, 0, 2, 0, 1));
        t.add("pour from none", x -> x.pour(2, 0, 0, 0, 1));
        t.add("pour none from beyond", x -> x.pour(0, 6, 0, 0, 0));
        t.add("pour none to beyond", x -> x.pour(0, 0, 0, 6, 0));
        t.add("pour the most", x -> x.pour(0, MAX, 0, MAX, MAX));
        t.add("pour the most of the first", x -> x.pour(0, 1, 0, 1, MAX));
        t.add("cover 6 of 5", x -> x.cover(0, 6, 0));
        t.add("cover 10 of 9 ahead of what can't be", x -> x.cover(1, 10, 0));
        t.add("cover 1 of 0", x -> x.coverSet(2, 1, 0));
        t.add("coverSet 20 of 9", x -> x.coverSet(1, 20, 0));
        t.add("strip", x -> x.strip(0, 0, 0));
        t.add("strip to none", x -> x.strip(2, 6, 2));
        t.add("suspects", x -> x.suspects(0, 0));
        t.add("suspects of none", x -> x.suspects(6, 2));
        t.refuse(3);
        Checks.due("full", full().pour(0, 5, 0, 5, 0), true);
    }

    static void status4_oneTooMany() {
        RefusalTests t = new RefusalTests(RefusalTests::late);
        t.add("hour", x -> x.hour(1));
        t.add("hours", x -> x.hour(99));
        t.add("a fourth MARK", x -> x.mark());
        t.refuse(4);
        t.add("100 HOURS, 1 ahead of 4", x -> x.hour(100));
        t.refuse(1);
    }

    static void status5_numbersInTrays() {
        RefusalTests t = new RefusalTests(RefusalTests::full);
        t.add("cover the third", x -> x.cover(0, 3, 0));
        t.add("coverSet the third", x -> x.coverSet(0, 5, 0));
        t.add("cover the last, ahead of it can't be", x -> x.cover(1, 9, 0));
        t.refuse(5);
    }

    static void status6_thereIsNoneSuch() {
        RefusalTests t = new RefusalTests(RefusalTests::full);
        t.add("stands CUT", x -> x.stands(2, 0, 0));
        t.add("stands in a lull", x -> x.stands(0, 4, 1));
        t.add("owner", x -> x.owner(8, 6, 0));
        t.add("owner in a lull", x -> x.owner(2, 3, 4));
        t.add("ripe", x -> x.ripe(1));
        t.add("cutIn", x -> x.cutIn(0));
        t.add("flyAt", x -> x.flyAt(3));
        t.add("flyAt the most", x -> x.flyAt(MAX));
        t.add("cover", x -> x.cover(0, 1, 4));
        t.add("coverSet", x -> x.coverSet(1, 1, 4));
        t.refuse(6);
        t = new RefusalTests(KiteLand::new);
        t.add("busiest", x -> x.busiest());
        t.add("greatest", x -> x.greatest());
        t.add("plant 1", x -> x.plant(1));
        t.add("plant 99", x -> x.plant(99));
        t.add("planted 1", x -> x.planted(1));
        t.add("planted 99", x -> x.planted(99));
        t.add("telling", x -> x.telling());
        t.add("needed", x -> x.needed());
        t.add("shaded", x -> x.shaded());
        t.add("live", x -> x.live(0));
        t.add("lived", x -> x.lived(0));
        t.add("undo", x -> x.undo());
        t.add("flyAt", x -> x.flyAt(0));
        t.refuse(6);
        t = new RefusalTests(RefusalTests::corner);
        t.add("share of empty PURSES", x -> x.share(0));
        t.add("mean without SEASONS", x -> x.mean(1, 9980, 20));
        t.add("greatest beyond the LAND", x -> x.greatest());
        t.add("lived ahead of live", x -> x.lived(4));
        t.refuse(6);
        t = new RefusalTests(() -> {
            KiteLand x = corner();
            x.hour(1);
            return x;
        });
        t.add("needed in a lull", x -> x.needed());
        t.add("greatest in a lull", x -> x.greatest());
        t.refuse(6);
        t = new RefusalTests(() -> {
            KiteLand x = full();
            x.cut(0, true);
            x.cut(1, true);
            return x;
        });
        t.add("reap without an OWNER", x -> x.reap(0));
        t.add("needed with all CUT", x -> x.needed());
        t.add("ripe with all CUT", x -> x.ripe(1));
        t.refuse(6);
    }

    static void status7_itCannotBe() {
        RefusalTests t = new RefusalTests(RefusalTests::corner);
        for (int step = 1; step < 5; step++) {
            int way = step;
            t.add("walk " + step, x -> x.walk(0, way));
            t.add("walk, CUT, " + step, x -> x.walk(1, way));
        }
        t.add("cut", x -> x.cut(1, true));
        t.add("mend", x -> x.cut(0, false));
        t.add("sell above 9", x -> x.sell(0, 1));
        t.add("sell far above 9", x -> x.sell(0, 9));
        t.add("sell below 0", x -> x.sell(1, -1));
        t.add("sell far below 0", x -> x.sell(1, -9));
        t.add("lease", x -> x.lease(0, 1));
        t.add("reap", x -> x.reap(0));
        t.refuse(7);
    }

    static void status8_unlikeSorts() {
        RefusalTests t = new RefusalTests(RefusalTests::full);
        t.add("pour", x -> x.pour(0, 0, 1, 0, 1));
        t.add("pour the other way", x -> x.pour(1, 0, 0, 0, 1));
        t.add("pour none", x -> x.pour(0, 0, 1, 0, 0));
        t.add("pour ahead of places", x -> x.pour(0, 60, 1, 60, 60));
        t.add("pour from an empty one", x -> x.pour(2, 0, 1, 0, 1));
        t.refuse(8);
    }

    /** With STATUS 9 the tape is empty and fault() tells, all else is as it was. */
    static void status9_faults() {
        String[] texts = {"land 9 by 7;law 2;noon 0;wind 0 0 0;kite z at 0 0 size 2;crop y at 0 0 wants 5;tenant w at 3 3 of z;law",
            "land 8 by 6;kite", "land", "hour 1;stop", "walk a 3;cut b;end;", "loop 9;hour 3;", "\0"};
        KiteLand twin = full();
        twin.county(1);
        String due = withoutFaults(after(twin));
        for (String text : texts) {
            for (boolean isCounty : new boolean[] {true, false}) {
                KiteLand x = full();
                // one FAULT empties the tape for the next
                x.county(1);
                int n = Checks.feed(x, text);
                Checks.due("the answer to " + text, isCounty ? x.county(n) : x.seasons(n), -1);
                Checks.due("its STATUS", x.status(), 9);
                Checks.due("a FAULT", x.fault(0) > 0 && x.fault(1) >= 0 && x.fault(1) <= n, true);
                Checks.due("what comes behind " + text + " is as without it", withoutFaults(after(x)).equals(due), true);
            }
        }
    }

    private static String withoutFaults(String text) {
        return text.replaceAll("fault -?\\d+ -?\\d+", "");
    }
}
