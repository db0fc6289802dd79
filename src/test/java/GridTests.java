import java.util.Map;
import java.util.TreeMap;

/**
 * Each call by the least and the greatest of each of its numbers, by those next to them that can't be, and by the least
 * and the greatest int, each with each: the class answers like the model, so the first STATUS that holds is told.
 */
final class GridTests {
    private static final String FULL = "land 9 by 7;law 1;noon 3;wind 4 0 0;wind 5 1 1;kite a at 0 3;kite b at 3 3 size 2 string 9 needs 2;"
            + "kite d at 0 0 size 0 string 0;crop c at 2 3 wants 2;crop e at 0 6 wants 1;tenant t at 2 2 of a;tenant u at 8 6 of b;";
    private static final String SMALL = "land 1 by 1;law 2;kite a at 0 0 string 0;kite b at 0 0 size 0 string 0 needs 3;crop c at 0 0 wants 1;tenant t at 0 0 of a;";
    private static final int TRAYS = 3;
    private static final int MANY = 20;

    private GridTests() {
    }

    /** Of each call the least and the greatest of its numbers; -9 stands for a boolean, -8 for a long. */
    private static Map<String, int[]> bounds(KiteLand x) {
        int column = Math.max(0, x.told(0) - 1);
        int row = Math.max(0, x.told(1) - 1);
        int kite = Math.max(0, x.told(2) - 1);
        int crop = Math.max(0, x.told(3) - 1);
        int tenant = Math.max(0, x.told(4) - 1);
        Map<String, int[]> all = new TreeMap<>();
        all.put("tray", new int[] {0, TRAYS, 0, 3, 0, 60});
        all.put("write", new int[] {0, TRAYS, 0, MANY - 1, -8, 0});
        all.put("read", new int[] {0, TRAYS, 0, MANY - 1});
        all.put("pour", new int[] {0, TRAYS, 0, MANY, 0, TRAYS, 0, MANY, 0, MANY});
        all.put("fault", new int[] {0, 1});
        all.put("told", new int[] {0, 10});
        all.put("wind", new int[] {0, 11, 0, 1});
        all.put("kite", new int[] {0, kite, 0, 7});
        all.put("crop", new int[] {0, crop, 0, 3});
        all.put("tenant", new int[] {0, tenant, 0, 4});
        all.put("stands", new int[] {0, kite, 0, 11, 0, 1});
        all.put("owner", new int[] {0, column, 0, row, 0, 11});
        all.put("shaders", new int[] {0, column, 0, row, 0, 11});
        all.put("estate", new int[] {0, kite, 0, 11});
        all.put("nobodys", new int[] {0, 11});
        all.put("disputed", new int[] {0, 11});
        all.put("crosses", new int[] {0, kite, 0, kite, 0, 11});
        all.put("lulls", new int[] {0, kite});
        all.put("hour", new int[] {1, 99});
        all.put("walk", new int[] {0, kite, 0, 4});
        all.put("cut", new int[] {0, kite, -9, 0});
        all.put("sell", new int[] {0, kite, -9, 9});
        all.put("blow", new int[] {0, 11, 0, 7, 0, 3});
        all.put("rule", new int[] {0, 2});
        all.put("lease", new int[] {0, tenant, 0, kite});
        all.put("reap", new int[] {0, crop});
        all.put("ripe", new int[] {0, crop});
        all.put("leaseOf", new int[] {0, column, 0, row, 0, kite, 0, 99});
        all.put("plant", new int[] {1, 99});
        all.put("planted", new int[] {1, 99});
        all.put("purseIn", new int[] {0, kite, 0, 99});
        all.put("tenantIn", new int[] {0, tenant, 0, 99});
        all.put("cutIn", new int[] {0, kite});
        all.put("fly", new int[] {0, kite, 0, column, 0, row, 1, 5});
        all.put("flyAt", new int[] {0, 4});
        all.put("cover", new int[] {0, TRAYS, 1, MANY, 0, 11});
        all.put("coverSet", new int[] {0, TRAYS, 1, MANY, 0, 11});
        all.put("settle", new int[] {0, 20});
        all.put("strip", new int[] {0, kite, 0, row, 0, TRAYS});
        all.put("suspects", new int[] {0, row, 0, TRAYS});
        all.put("strips", new int[] {0, row});
        all.put("duel", new int[] {0, kite, 0, kite, 0, 4});
        all.put("duelStep", new int[] {0, kite, 0, kite, 1, 4});
        all.put("share", new int[] {0, kite});
        all.put("live", new int[] {0, 9999});
        all.put("lived", new int[] {0, 4});
        all.put("mean", new int[] {0, kite, 0, 9999, 1, 20});
        return all;
    }

    private static Object[] choices(String name, int place, int least, int most) {
        if (least == -8) {
            return new Object[] {Long.MIN_VALUE, -129L, 0L, 68L, 255L, Long.MAX_VALUE};
        }
        if (least == -9 && most == 0) {
            return new Object[] {true, false};
        }
        if (name.equals("fly") && place == 3) {
            // five HOURS are dear in the model
            return new Object[] {Integer.MIN_VALUE, 0, 1, 2, 6, Integer.MAX_VALUE};
        }
        if (name.equals("mean") && place == 1) {
            return new Object[] {Integer.MIN_VALUE, -1, 0, 9979, 9980, 9981, 9998, 9999, 10000, Integer.MAX_VALUE};
        }
        return least == most ? new Object[] {Integer.MIN_VALUE, least - 1, least, most + 1, Integer.MAX_VALUE}
                : new Object[] {Integer.MIN_VALUE, least - 1, least, most, most + 1, Integer.MAX_VALUE};
    }

    /** Each choice with each: null, or what was answered unlike. */
    private static String each(Pair pair, String name, int[] bounds) throws ReflectiveOperationException {
        int many = bounds.length / 2;
        Object[][] choices = new Object[many][];
        int all = 1;
        for (int i = 0; i < many; i++) {
            choices[i] = choices(name, i, bounds[2 * i], bounds[2 * i + 1]);
            all *= choices[i].length;
        }
        String wrong = null;
        for (int k = 0; k < all && wrong == null; k++) {
            Object[] arguments = new Object[many];
            int rest = k;
            for (int i = 0; i < many; i++) {
                arguments[i] = choices[i][rest % choices[i].length];
                rest /= choices[i].length;
            }
            wrong = pair.call(name, arguments);
        }
        return wrong;
    }

    private static String fill(Pair pair, String county) throws ReflectiveOperationException {
        String wrong = county.isEmpty() ? null : pair.tell(county, "county");
        if (wrong == null && !county.isEmpty()) {
            wrong = pair.tell("hour 1;any a;when up b;hour 2;end;", "seasons");
        }
        for (int sort = 0; sort < 2 && wrong == null; sort++) {
            wrong = pair.call("tray", sort, sort, MANY);
            wrong = wrong != null ? wrong : pair.call("write", sort, 0, 10L * sort);
        }
        return wrong != null ? wrong : pair.call("tray", 2, 1, 3);
    }

    private static void grid(String county) {
        String wrong = null;
        try {
            Pair first = new Pair();
            wrong = fill(first, county);
            for (Map.Entry<String, int[]> one : bounds(first.land).entrySet()) {
                Pair pair = new Pair();
                wrong = wrong != null ? wrong : fill(pair, county);
                wrong = wrong != null ? wrong : each(pair, one.getKey(), one.getValue());
            }
        } catch (ReflectiveOperationException e) {
            wrong = "threw " + e.getCause();
        }
        Checks.due("trouble", wrong == null ? "none" : wrong, "none");
    }

    static void allNumbersOfAFullCounty() {
        grid(FULL);
    }

    static void allNumbersOfTheLeastCounty() {
        grid(SMALL);
    }

    static void allNumbersWithoutLand() {
        grid("");
    }

    /** Every call is there, but those that read texts or have no numbers. */
    static void noCallIsLeftOut() {
        Map<String, int[]> all = bounds(new KiteLand());
        new Pair().methods().forEach(m -> {
            int due = "county seasons feed".contains(m.getName()) || m.getParameterCount() == 0 ? 0 : 2 * m.getParameterCount();
            int[] got = all.get(m.getName());
            Checks.due("bounds of " + m.getName(), got == null ? 0 : got.length, due);
        });
    }
}
