import java.lang.reflect.Method;
import java.util.Random;

/** Random runs of 512 calls, in which the class and the model have to answer alike. */
final class RandomRuns {
    private static final int CALLS = 512;

    private final Random random;
    private final RandomTexts texts;
    private final Pair pair = new Pair();
    private final KiteLand land = pair.land;

    private RandomRuns(long seed) {
        random = new Random(seed);
        texts = new RandomTexts(random);
    }

    /** Null, or what went wrong in the run of this seed. */
    static String trouble(long seed) {
        RandomRuns run = new RandomRuns(seed);
        try {
            return run.run();
        } catch (ReflectiveOperationException e) {
            return "seed " + seed + ": " + e.getCause() + " behind " + run.pair.calls();
        }
    }

    private String run() throws ReflectiveOperationException {
        String wrong = pair.tell(texts.county(), "county");
        while (wrong == null && pair.calls().size() < CALLS) {
            wrong = next();
        }
        return wrong;
    }

    private String next() throws ReflectiveOperationException {
        int which = random.nextInt(100);
        if (which < 2) {
            String text = texts.county();
            return pair.tell(random.nextInt(3) > 0 ? texts.spoiled(text) : text, "county");
        }
        if (which < 7) {
            String text = texts.seasons(land.told(2), land.told(3));
            return pair.tell(random.nextInt(4) == 0 ? texts.spoiled(text) : text, "seasons");
        }
        if (which < 10) {
            return tray();
        }
        Method m = pair.methods().get(random.nextInt(pair.methods().size()));
        if (m.getName().equals("county") && random.nextInt(4) > 0) {
            return null;
        }
        Object[] arguments = new Object[m.getParameterCount()];
        for (int i = 0; i < arguments.length; i++) {
            Class<?> type = m.getParameterTypes()[i];
            arguments[i] = type == int.class ? (Object) number(m.getName(), i)
                    : type == long.class ? (Object) random.nextLong() : (Object) random.nextBoolean();
        }
        return pair.call(m, arguments);
    }

    /** A tray that suits cover, strip and suspects more often than chance would have it. */
    private String tray() throws ReflectiveOperationException {
        int tray = random.nextInt(4);
        String wrong = pair.call("tray", tray, random.nextInt(4), 9 + random.nextInt(12));
        int wide = Math.max(1, land.told(0));
        int deep = Math.max(1, land.told(1));
        for (int i = 0; i < 5 && wrong == null; i++) {
            wrong = pair.call("write", tray, random.nextInt(9), (long) (random.nextInt(deep) * 10 + random.nextInt(wide)));
        }
        return wrong != null ? wrong : pair.call("coverSet", tray, 1 + random.nextInt(3), random.nextInt(12));
    }

    private int number(String name, int i) {
        int which = random.nextInt(60);
        if (which == 0) {
            return random.nextInt();
        }
        if (which < 3) {
            return -1 - random.nextInt(3);
        }
        if (which < 5) {
            return random.nextInt(130);
        }
        switch (name) {
            case "tray": return random.nextInt(i == 2 ? 61 : 4);
            case "write": case "read": return random.nextInt(i == 0 ? 4 : 12);
            case "pour": return random.nextInt(i == 0 || i == 2 ? 4 : 8);
            case "feed": return random.nextInt();
            case "county": case "seasons": return 0;
            case "told": return random.nextInt(12);
            case "kite": return random.nextInt(i == 0 ? land.told(2) + 1 : 9);
            case "crop": return random.nextInt(i == 0 ? land.told(3) + 1 : 5);
            case "tenant": return random.nextInt(i == 0 ? land.told(4) + 1 : 6);
            case "ripe": case "reap": return random.nextInt(land.told(3) + 1);
            case "tenantIn": return random.nextInt(i == 0 ? land.told(4) + 1 : 20);
            case "lease": return random.nextInt(i == 0 ? land.told(4) + 1 : land.told(2) + 1);
            case "owner": case "shaders": return i == 2 ? random.nextInt(13) : field(i);
            case "leaseOf": return i < 2 ? field(i) : random.nextInt(i == 2 ? land.told(2) + 1 : 30);
            case "fly": return i == 0 ? random.nextInt(land.told(2) + 1) : i == 3 ? 1 + random.nextInt(random.nextInt(5) > 0 ? 3 : 6) : field(i - 1);
            case "cover": case "coverSet": return i == 0 ? random.nextInt(4) : i == 1 ? 1 + random.nextInt(4) : random.nextInt(12);
            case "strip": return i == 2 ? random.nextInt(4) : i == 0 ? random.nextInt(land.told(2) + 1) : field(1);
            case "suspects": return i == 0 ? field(1) : random.nextInt(4);
            case "strips": return field(1);
            case "duel": case "duelStep": return i < 2 ? random.nextInt(land.told(2) + 1) : random.nextInt(random.nextInt(4) > 0 ? 3 : 5);
            case "sell": return i == 0 ? random.nextInt(land.told(2) + 1) : random.nextInt(9) - 4;
            case "walk": return random.nextInt(i == 0 ? land.told(2) + 1 : 6);
            case "crosses": case "stands": case "estate": case "lulls": case "share": case "cut": case "cutIn": case "purseIn":
                return random.nextInt(i == 0 || i == 1 && name.equals("crosses") ? land.told(2) + 1 : 12);
            case "mean": return random.nextInt(i == 0 ? land.told(2) + 1 : i == 1 ? 10000 : 6);
            case "live": return random.nextInt(10001);
            case "hour": return 1 + random.nextInt(random.nextInt(3) > 0 ? 6 : 99);
            case "blow": return random.nextInt(i == 0 ? 12 : i == 1 ? 8 : 4);
            case "rule": return random.nextInt(4);
            default: return random.nextInt(13);
        }
    }

    private int field(int i) {
        return random.nextInt(land.told(i == 0 ? 0 : 1) + 1);
    }
}
