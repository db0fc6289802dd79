import java.util.ArrayList;
import java.util.Arrays;
import java.util.HashSet;
import java.util.List;
import java.util.Set;
import java.util.TreeMap;
import java.util.regex.Matcher;
import java.util.regex.Pattern;

/**
 * The document once more, by other means: everything is a copy, a list or a search by brute force.
 * Slow, and free to use the whole library; random runs are held against it.
 */
final class Model {
    static final int NONE = -1;
    static final Set<String> RESERVED = new HashSet<>(Arrays.asList(("land by wind noon law kite at size string needs"
            + " veers crop wants tenant of hour walk cut mend any when purse ripe up loop end stop").split(" ")));

    @SuppressWarnings("serial")
    static final class Fault extends RuntimeException {
        final int kind;
        final int place;

        Fault(int kind, int place) {
            super(null, null, false, false);
            this.kind = kind;
            this.place = place;
        }
    }

    /** Thrown where a life ends before its text does. */
    @SuppressWarnings("serial")
    static final class LifeEnds extends RuntimeException {
        LifeEnds() {
            super(null, null, false, false);
        }
    }

    static final class Kite implements Cloneable {
        int c, r, size = 1, string = 3, needs = 1, veers, purse, walked;
        boolean cut;
    }

    static final class Crop {
        int c, r, wants, grown;
    }

    static final class Tenant {
        int c, r, kite, tilled, idle;
    }

    static final class Step {
        String word;
        String test = "";
        int thing;
        int number;
        char sign;
        List<Step> body = new ArrayList<>();
    }

    static final class State {
        int wide, deep, noon = 6, law, hour;
        int[][] wind = new int[12][];
        List<Kite> kites = new ArrayList<>();
        List<Crop> crops = new ArrayList<>();
        List<Tenant> tenants = new ArrayList<>();
        TreeMap<String, int[]> names = new TreeMap<>();
        List<Step> seasons = null;

        State() {
            for (int h = 0; h < 12; h++) {
                wind[h] = new int[] {2, 2};
            }
        }

        State copy() {
            State s = new State();
            s.wide = wide;
            s.deep = deep;
            s.noon = noon;
            s.law = law;
            s.hour = hour;
            for (int h = 0; h < 12; h++) {
                s.wind[h] = wind[h].clone();
            }
            for (Kite k : kites) {
                Kite n = new Kite();
                n.c = k.c;
                n.r = k.r;
                n.size = k.size;
                n.string = k.string;
                n.needs = k.needs;
                n.veers = k.veers;
                n.purse = k.purse;
                n.walked = k.walked;
                n.cut = k.cut;
                s.kites.add(n);
            }
            for (Crop k : crops) {
                Crop n = new Crop();
                n.c = k.c;
                n.r = k.r;
                n.wants = k.wants;
                n.grown = k.grown;
                s.crops.add(n);
            }
            for (Tenant k : tenants) {
                Tenant n = new Tenant();
                n.c = k.c;
                n.r = k.r;
                n.kite = k.kite;
                n.tilled = k.tilled;
                n.idle = k.idle;
                s.tenants.add(n);
            }
            s.names.putAll(names);
            s.seasons = seasons;
            return s;
        }

        boolean land(int c, int r) {
            return c >= 0 && r >= 0 && c < wide && r < deep;
        }

        boolean upByForce(int k, int h) {
            return wind[h][1] >= kites.get(k).needs;
        }

        boolean up(int k, int h) {
            return !kites.get(k).cut && upByForce(k, h);
        }

        int[] at(int k, int h) {
            Kite kite = kites.get(k);
            int d = (int) Math.floor(kite.string * wind[h][1] / 3.0);
            String compass = new String[] {"N", "NE", "E", "SE", "S", "SW", "W", "NW"}[(wind[h][0] + kite.veers) % 8];
            int c = kite.c;
            int r = kite.r;
            if (compass.contains("N")) {
                r -= d;
            }
            if (compass.contains("S")) {
                r += d;
            }
            if (compass.contains("E")) {
                c += d;
            }
            if (compass.contains("W")) {
                c -= d;
            }
            return new int[] {c, r};
        }

        boolean inShade(int k, int c, int r, int h) {
            int[] at = at(k, h);
            int size = kites.get(k).size;
            if (h == noon && size > 0) {
                size--;
            }
            return Math.max(Math.abs(at[0] - c), Math.abs(at[1] - r)) <= size;
        }

        List<Integer> shaders(int c, int r, int h) {
            List<Integer> all = new ArrayList<>();
            for (int k = 0; k < kites.size(); k++) {
                if (up(k, h) && inShade(k, c, r, h)) {
                    all.add(k);
                }
            }
            return all;
        }

        int owner(int c, int r, int h) {
            List<Integer> all = shaders(c, r, h);
            if (all.isEmpty()) {
                return NONE;
            }
            if (law == 0) {
                return all.get(0);
            }
            if (law == 2) {
                return all.size() == 1 ? all.get(0) : NONE;
            }
            int most = 0;
            for (int k : all) {
                most = Math.max(most, kites.get(k).size);
            }
            for (int k : all) {
                if (kites.get(k).size == most) {
                    return k;
                }
            }
            throw new IllegalStateException();
        }

        int owned(int kite, int h) {
            int n = 0;
            for (int[] f : fields()) {
                int o = owner(f[0], f[1], h);
                if (o >= 0 && (kite < 0 || o == kite)) {
                    n++;
                }
            }
            return n;
        }

        List<int[]> fields() {
            List<int[]> all = new ArrayList<>();
            for (int r = 0; r < deep; r++) {
                for (int c = 0; c < wide; c++) {
                    all.add(new int[] {c, r});
                }
            }
            return all;
        }

        /** The point in common, by its place along both STRINGS, told in fractions of one divisor. */
        boolean cross(int a, int b, int h) {
            if (!up(a, h) || !up(b, h)) {
                return false;
            }
            int[] p = at(a, h);
            int[] q = at(b, h);
            Kite x = kites.get(a);
            Kite y = kites.get(b);
            int dx = p[0] - x.c;
            int dy = p[1] - x.r;
            int ex = q[0] - y.c;
            int ey = q[1] - y.r;
            int gx = y.c - x.c;
            int gy = y.r - x.r;
            // x + t d = y + u e
            int det = ex * dy - dx * ey;
            if (det == 0) {
                return false;
            }
            double t = (ex * (double) gy - ey * (double) gx) / det;
            double u = (dx * (double) gy - dy * (double) gx) / det;
            double small = 1e-9;
            return t > small && t < 1 - small && u > small && u < 1 - small;
        }

        Set<Integer> doomed(int h) {
            Set<Integer> lost = new HashSet<>();
            for (int a = 0; a < kites.size(); a++) {
                for (int b = 0; b < kites.size(); b++) {
                    if (a != b && cross(a, b, h) && kites.get(a).string <= kites.get(b).string) {
                        lost.add(a);
                    }
                }
            }
            return lost;
        }

        Set<Integer> pass() {
            int h = hour % 12;
            Set<Integer> lost = doomed(h);
            for (int k : lost) {
                kites.get(k).cut = true;
            }
            for (Crop crop : crops) {
                int o = owner(crop.c, crop.r, h);
                if (o >= 0) {
                    crop.grown = Math.min(99, crop.grown + 1);
                    gain(o, 1);
                }
            }
            for (Tenant t : tenants) {
                if (owner(t.c, t.r, h) == t.kite) {
                    t.tilled++;
                    gain(t.kite, 1);
                    continue;
                }
                int[] goal = null;
                for (int[] f : fields()) {
                    if (owner(f[0], f[1], h) == t.kite && (goal == null || steps(t, f) < steps(t, goal))) {
                        goal = f;
                    }
                }
                if (goal == null) {
                    t.idle++;
                } else if (goal[0] != t.c) {
                    t.c += Integer.signum(goal[0] - t.c);
                } else {
                    t.r += Integer.signum(goal[1] - t.r);
                }
            }
            hour++;
            return lost;
        }

        static int steps(Tenant t, int[] f) {
            return Math.abs(t.c - f[0]) + Math.abs(t.r - f[1]);
        }

        void gain(int k, int n) {
            kites.get(k).purse = Math.min(9999, kites.get(k).purse + n);
        }

        boolean step(int k, int step) {
            int c = kites.get(k).c + (step == 2 ? 1 : step == 4 ? -1 : 0);
            int r = kites.get(k).r + (step == 3 ? 1 : step == 1 ? -1 : 0);
            if (!land(c, r)) {
                return false;
            }
            kites.get(k).c = c;
            kites.get(k).r = r;
            if (step > 0) {
                kites.get(k).walked++;
            }
            return true;
        }

        List<Integer> strip(int k, int row) {
            List<Integer> all = new ArrayList<>();
            for (int c = 0; c < wide; c++) {
                int n = 0;
                for (int h = 0; h < 12; h++) {
                    if (upByForce(k, h) && inShade(k, c, row, h)) {
                        n++;
                    }
                }
                all.add(n);
            }
            return all;
        }

        int unlike(int row) {
            Set<List<Integer>> all = new HashSet<>();
            for (int k = 0; k < kites.size(); k++) {
                all.add(strip(k, row));
            }
            return all.size();
        }
    }

    // ---- the reader

    private final List<String> tokens = new ArrayList<>();
    private final List<Integer> places = new ArrayList<>();
    private int at;

    private void lex(String text) {
        tokens.clear();
        places.clear();
        at = 0;
        Matcher m = Pattern.compile("[a-z]+|[0-9]+|[;<>=]|[^ \n]", Pattern.DOTALL).matcher(text);
        while (m.find()) {
            tokens.add(m.group());
            places.add(m.start());
        }
        tokens.add("");
        places.add(text.length());
    }

    private Fault bad(int kind) {
        String t = tokens.get(at);
        boolean token = t.isEmpty() || t.matches("[a-z]+|[0-9]{1,4}|[;<>=]");
        return new Fault(token ? kind : 1, places.get(at));
    }

    private boolean is(String word) {
        return tokens.get(at).equals(word);
    }

    private void must(String word) {
        if (!is(word)) {
            throw bad(2);
        }
        at++;
    }

    private int number(int least, int most) {
        if (!tokens.get(at).matches("[0-9]{1,4}")) {
            throw bad(2);
        }
        int n = Integer.parseInt(tokens.get(at));
        if (n < least || n > most) {
            throw bad(4);
        }
        at++;
        return n;
    }

    private String name() {
        String t = tokens.get(at);
        if (!t.matches("[a-z]{1,8}") || RESERVED.contains(t)) {
            throw bad(2);
        }
        return t;
    }

    private String newName(State s) {
        String t = name();
        if (s.names.containsKey(t)) {
            throw bad(3);
        }
        at++;
        return t;
    }

    private int known(State s, int sort) {
        String t = name();
        if (!s.names.containsKey(t) || s.names.get(t)[0] != sort) {
            throw bad(3);
        }
        at++;
        return s.names.get(t)[1];
    }

    private int option(String word, int most, int without) {
        if (!is(word)) {
            return without;
        }
        at++;
        return number(0, most);
    }

    private State readCounty(String text) {
        lex(text);
        State s = new State();
        boolean noon = false;
        boolean law = false;
        while (!is("")) {
            String word = tokens.get(at);
            if (s.wide == 0 && !word.equals("land")) {
                throw bad(2);
            }
            if (word.equals("land") && s.wide > 0 || word.equals("noon") && noon || word.equals("law") && law) {
                throw bad(5);
            }
            if (word.equals("kite") && s.kites.size() == 6 || word.equals("tenant") && s.tenants.size() == 6
                    || word.equals("crop") && s.crops.size() == 8) {
                throw bad(6);
            }
            if (!Arrays.asList("land", "noon", "law", "wind", "kite", "crop", "tenant").contains(word)) {
                throw bad(2);
            }
            at++;
            if (word.equals("land")) {
                s.wide = number(1, 9);
                must("by");
                s.deep = number(1, 7);
            } else if (word.equals("noon")) {
                noon = true;
                s.noon = number(0, 11);
            } else if (word.equals("law")) {
                law = true;
                s.law = number(0, 2);
            } else if (word.equals("wind")) {
                int h = number(0, 11);
                int d = number(0, 7);
                s.wind[h] = new int[] {d, number(0, 3)};
            } else {
                readThing(s, word);
            }
            must(";");
        }
        return s;
    }

    private void readThing(State s, String word) {
        String name = newName(s);
        must("at");
        int c = number(0, s.wide - 1);
        int r = number(0, s.deep - 1);
        if (word.equals("kite")) {
            Kite k = new Kite();
            k.c = c;
            k.r = r;
            k.size = option("size", 2, 1);
            k.string = option("string", 9, 3);
            k.needs = option("needs", 3, 1);
            k.veers = option("veers", 7, 0);
            s.names.put(name, new int[] {0, s.kites.size()});
            s.kites.add(k);
        } else if (word.equals("crop")) {
            must("wants");
            Crop k = new Crop();
            k.c = c;
            k.r = r;
            k.wants = number(1, 99);
            s.names.put(name, new int[] {1, s.crops.size()});
            s.crops.add(k);
        } else {
            must("of");
            Tenant k = new Tenant();
            k.c = c;
            k.r = r;
            k.kite = known(s, 0);
            s.names.put(name, new int[] {2, s.tenants.size()});
            s.tenants.add(k);
        }
    }

    private int stepCount;

    private List<Step> readSeasons(String text, State s) {
        lex(text);
        stepCount = 0;
        List<Step> all = readBody(s, 0);
        if (!is("")) {
            throw bad(2);
        }
        return all;
    }

    private List<Step> readBody(State s, int depth) {
        List<Step> all = new ArrayList<>();
        while (!is("") && !is("end")) {
            Step one = new Step();
            one.word = tokens.get(at);
            if (!Arrays.asList("hour", "walk", "cut", "mend", "any", "when", "loop", "stop").contains(one.word)) {
                throw bad(2);
            }
            if (stepCount == 30) {
                throw bad(6);
            }
            boolean block = one.word.equals("when") || one.word.equals("loop");
            if (block && depth == 3) {
                throw bad(7);
            }
            stepCount++;
            at++;
            switch (one.word) {
                case "hour": one.number = number(1, 3); break;
                case "walk": one.thing = known(s, 0); one.number = number(1, 4); break;
                case "cut": case "mend": case "any": one.thing = known(s, 0); break;
                case "loop": one.number = number(1, 99); break;
                case "when": readTest(s, one); break;
                default: break;
            }
            must(";");
            if (block) {
                one.body = readBody(s, depth + 1);
                must("end");
                must(";");
            }
            all.add(one);
        }
        return all;
    }

    private void readTest(State s, Step one) {
        one.test = tokens.get(at);
        if (is("ripe")) {
            at++;
            one.thing = known(s, 1);
        } else if (is("up")) {
            at++;
            one.thing = known(s, 0);
        } else {
            must("purse");
            one.thing = known(s, 0);
            if (!is("<") && !is(">") && !is("=")) {
                throw bad(2);
            }
            one.sign = tokens.get(at).charAt(0);
            at++;
            one.number = number(0, 9999);
        }
    }

    // ---- a life

    private static final class Lived {
        int steps, missed, hours, walked, lost, left;
        int drawn;

        void body(State s, List<Step> body) {
            for (Step one : body) {
                if (steps == 300) {
                    left = 1;
                    throw new LifeEnds();
                }
                steps++;
                step(s, one);
            }
        }

        private void step(State s, Step one) {
            switch (one.word) {
                case "hour": hours(s, one.number); break;
                case "walk": walk(s, one.thing, one.number); break;
                case "any":
                    drawn = (int) ((drawn * 3001L + 11197L) % 65536L);
                    walk(s, one.thing, (drawn / 8) % 4 + 1);
                    break;
                case "cut": turn(s.kites.get(one.thing), true); break;
                case "mend": turn(s.kites.get(one.thing), false); break;
                case "stop": throw new LifeEnds();
                case "loop":
                    for (int i = 0; i < one.number; i++) {
                        body(s, one.body);
                    }
                    break;
                default:
                    if (holds(s, one)) {
                        body(s, one.body);
                    }
                    break;
            }
        }

        private void hours(State s, int n) {
            if (s.hour + n > 9999) {
                missed++;
                return;
            }
            for (int i = 0; i < n; i++) {
                lost += s.pass().size();
                hours++;
            }
        }

        private void walk(State s, int k, int step) {
            if (s.step(k, step)) {
                walked++;
            } else {
                missed++;
            }
        }

        private void turn(Kite k, boolean cut) {
            if (k.cut == cut) {
                missed++;
            }
            k.cut = cut;
        }

        private boolean holds(State s, Step one) {
            if (one.test.equals("ripe")) {
                Crop crop = s.crops.get(one.thing);
                return crop.grown >= crop.wants;
            }
            if (one.test.equals("up")) {
                return s.up(one.thing, s.hour % 12);
            }
            int purse = s.kites.get(one.thing).purse;
            return one.sign == '<' ? purse < one.number : one.sign == '>' ? purse > one.number : purse == one.number;
        }
    }

    private static Lived lifeOf(State s, int seed) {
        Lived life = new Lived();
        life.drawn = seed;
        try {
            life.body(s, s.seasons);
        } catch (LifeEnds e) {
            // what was lived until then counts
        }
        return life;
    }

    // ---- the face

    private State now = new State();
    private final List<State> marks = new ArrayList<>();
    private final long[][] trays = new long[4][];
    private final int[] sorts = new int[4];
    private final StringBuilder tape = new StringBuilder();
    private int status;
    private long top;
    private long bottom = 1;
    private int faultKind = NONE;
    private int faultPlace = NONE;
    private int[] flown = new int[0];
    private Lived lived = null;

    private static int set(Iterable<Integer> all) {
        int set = 0;
        for (int k : all) {
            set |= 1 << k;
        }
        return set;
    }

    private int no(int why) {
        status = why;
        return NONE;
    }

    private boolean not(int why) {
        status = why;
        return false;
    }

    private int ok(int value) {
        status = 0;
        return value;
    }

    private boolean yes() {
        status = 0;
        return true;
    }

    private static boolean in(int i, int least, int most) {
        return i >= least && i <= most;
    }

    private boolean k(int i) {
        return in(i, 0, now.kites.size() - 1);
    }

    private boolean h(int i) {
        return in(i, 0, 11);
    }

    private boolean fraction(long a, long b) {
        long g = b;
        while (a % g != 0 || b % g != 0) {
            g--;
        }
        top = a / g;
        bottom = b / g;
        return yes();
    }

    public int status() {
        return status;
    }

    public long top() {
        return top;
    }

    public long bottom() {
        return bottom;
    }

    public boolean tray(int tray, int sort, int many) {
        if (!in(tray, 0, 3) || !in(sort, 0, 3) || !in(many, 0, 60)) {
            return not(1);
        }
        trays[tray] = new long[many];
        sorts[tray] = sort;
        return yes();
    }

    private int place(int tray, int place) {
        return !in(tray, 0, 3) ? 1 : trays[tray] == null ? 2 : !in(place, 0, trays[tray].length - 1) ? 3 : 0;
    }

    public boolean write(int tray, int place, long v) {
        int why = place(tray, place);
        if (why != 0) {
            return not(why);
        }
        int drop = 64 - (8 << sorts[tray]);
        trays[tray][place] = v << drop >> drop;
        return yes();
    }

    public long read(int tray, int place) {
        int why = place(tray, place);
        if (why != 0) {
            return no(why);
        }
        status = 0;
        return trays[tray][place];
    }

    public boolean pour(int from, int place, int to, int at, int many) {
        if (!in(from, 0, 3) || !in(to, 0, 3) || place < 0 || at < 0 || many < 0) {
            return not(1);
        }
        if (trays[from] == null || trays[to] == null) {
            return not(2);
        }
        if (sorts[from] != sorts[to]) {
            return not(8);
        }
        if ((long) place + many > trays[from].length || (long) at + many > trays[to].length) {
            return not(3);
        }
        long[] old = trays[from].clone();
        for (int i = 0; i < many; i++) {
            trays[to][at + i] = old[place + i];
        }
        return yes();
    }

    public int feed(int a, int b, int c, int d, int e) {
        if (tape.length() + 20 > 900) {
            return NONE;
        }
        for (int word : new int[] {a, b, c, d, e}) {
            for (int i = 3; i >= 0; i--) {
                tape.append((char) (word >>> (8 * i) & 255));
            }
        }
        return tape.length();
    }

    public int county(int n) {
        if (!in(n, 0, tape.length())) {
            return no(1);
        }
        String text = tape.substring(0, n);
        tape.setLength(0);
        faultKind = 0;
        faultPlace = NONE;
        try {
            now = readCounty(text);
        } catch (Fault f) {
            faultKind = f.kind;
            faultPlace = f.place;
            return no(9);
        }
        return ok(now.kites.size());
    }

    public int seasons(int n) {
        if (!in(n, 0, Math.min(300, tape.length()))) {
            return no(1);
        }
        String text = tape.substring(0, n);
        tape.setLength(0);
        faultKind = 0;
        faultPlace = NONE;
        try {
            now.seasons = readSeasons(text, now);
        } catch (Fault f) {
            faultKind = f.kind;
            faultPlace = f.place;
            return no(9);
        }
        return ok(stepCount);
    }

    public int fault(int what) {
        return what == 0 ? faultKind : what == 1 ? faultPlace : NONE;
    }

    public int told(int what) {
        if (!in(what, 0, 10)) {
            return no(1);
        }
        int up = 0;
        int cut = 0;
        int ripe = 0;
        for (int i = 0; i < now.kites.size(); i++) {
            up += now.up(i, now.hour % 12) ? 1 << i : 0;
            cut += now.kites.get(i).cut ? 1 << i : 0;
        }
        for (int i = 0; i < now.crops.size(); i++) {
            ripe += now.crops.get(i).grown >= now.crops.get(i).wants ? 1 << i : 0;
        }
        return ok(new int[] {now.wide, now.deep, now.kites.size(), now.crops.size(), now.tenants.size(), now.noon,
            now.law, now.hour, up, cut, ripe}[what]);
    }

    public int wind(int hour, int what) {
        return h(hour) && in(what, 0, 1) ? ok(now.wind[hour][what]) : no(1);
    }

    public int kite(int kite, int what) {
        if (!k(kite) || !in(what, 0, 7)) {
            return no(1);
        }
        Kite k = now.kites.get(kite);
        return ok(new int[] {k.c, k.r, k.size, k.string, k.needs, k.purse, k.walked, k.veers}[what]);
    }

    public int crop(int crop, int what) {
        if (!in(crop, 0, now.crops.size() - 1) || !in(what, 0, 3)) {
            return no(1);
        }
        Crop k = now.crops.get(crop);
        return ok(new int[] {k.c, k.r, k.wants, k.grown}[what]);
    }

    public int tenant(int tenant, int what) {
        if (!in(tenant, 0, now.tenants.size() - 1) || !in(what, 0, 4)) {
            return no(1);
        }
        Tenant k = now.tenants.get(tenant);
        return ok(new int[] {k.c, k.r, k.kite, k.tilled, k.idle}[what]);
    }

    public int stands(int kite, int hour, int what) {
        if (!k(kite) || !h(hour) || !in(what, 0, 1)) {
            return no(1);
        }
        return now.up(kite, hour) ? ok(now.at(kite, hour)[what]) : no(6);
    }

    public int owner(int column, int row, int hour) {
        if (!now.land(column, row) || !h(hour)) {
            return no(1);
        }
        int o = now.owner(column, row, hour);
        return o < 0 ? no(6) : ok(o);
    }

    public int shaders(int column, int row, int hour) {
        return now.land(column, row) && h(hour) ? ok(set(now.shaders(column, row, hour))) : no(1);
    }

    public int estate(int kite, int hour) {
        return k(kite) && h(hour) ? ok(now.owned(kite, hour)) : no(1);
    }

    public int nobodys(int hour) {
        return h(hour) ? ok(now.fields().size() - now.owned(NONE, hour)) : no(1);
    }

    public int disputed(int hour) {
        if (!h(hour)) {
            return no(1);
        }
        return ok((int) now.fields().stream().filter(f -> now.shaders(f[0], f[1], hour).size() > 1).count());
    }

    public int crosses(int a, int b, int hour) {
        return k(a) && k(b) && a != b && h(hour) ? ok(now.cross(a, b, hour) ? 1 : 0) : no(1);
    }

    public int doomed() {
        return ok(set(now.doomed(now.hour % 12)));
    }

    public int lulls(int kite) {
        if (!k(kite)) {
            return no(1);
        }
        int set = 0;
        for (int i = 0; i < 12; i++) {
            set |= now.upByForce(kite, i) ? 0 : 1 << i;
        }
        return ok(set);
    }

    public int busiest() {
        if (now.wide == 0) {
            return no(6);
        }
        int best = 0;
        for (int i = 1; i < 12; i++) {
            if (now.owned(NONE, i) > now.owned(NONE, best)) {
                best = i;
            }
        }
        return ok(best);
    }

    public int greatest() {
        int h = now.hour % 12;
        if (now.owned(NONE, h) == 0) {
            return no(6);
        }
        int best = 0;
        for (int i = 1; i < now.kites.size(); i++) {
            if (now.owned(i, h) > now.owned(best, h)) {
                best = i;
            }
        }
        return ok(best);
    }

    public int hour(int many) {
        if (!in(many, 1, 99)) {
            return no(1);
        }
        if (now.hour + many > 9999) {
            return no(4);
        }
        Set<Integer> lost = new HashSet<>();
        for (int i = 0; i < many; i++) {
            lost.addAll(now.pass());
        }
        return ok(set(lost));
    }

    public int walk(int kite, int step) {
        if (!k(kite) || !in(step, 0, 4)) {
            return no(1);
        }
        return now.step(kite, step) ? ok(now.kites.get(kite).r * 10 + now.kites.get(kite).c) : no(7);
    }

    public boolean cut(int kite, boolean is) {
        if (!k(kite)) {
            return not(1);
        }
        if (now.kites.get(kite).cut == is) {
            return not(7);
        }
        now.kites.get(kite).cut = is;
        return yes();
    }

    public int sell(int kite, int n) {
        if (!k(kite) || !in(n, -9, 9)) {
            return no(1);
        }
        if (!in(now.kites.get(kite).string + n, 0, 9)) {
            return no(7);
        }
        return ok(now.kites.get(kite).string += n);
    }

    public boolean blow(int hour, int direction, int force) {
        if (!h(hour) || !in(direction, 0, 7) || !in(force, 0, 3)) {
            return not(1);
        }
        now.wind[hour] = new int[] {direction, force};
        return yes();
    }

    public boolean rule(int law) {
        if (!in(law, 0, 2)) {
            return not(1);
        }
        now.law = law;
        return yes();
    }

    public boolean lease(int tenant, int kite) {
        if (!in(tenant, 0, now.tenants.size() - 1) || !k(kite)) {
            return not(1);
        }
        if (now.tenants.get(tenant).kite == kite) {
            return not(7);
        }
        now.tenants.get(tenant).kite = kite;
        return yes();
    }

    public int reap(int crop) {
        if (!in(crop, 0, now.crops.size() - 1)) {
            return no(1);
        }
        Crop one = now.crops.get(crop);
        if (one.grown < one.wants) {
            return no(7);
        }
        int o = now.owner(one.c, one.r, now.hour % 12);
        if (o < 0) {
            return no(6);
        }
        one.grown = 0;
        now.gain(o, one.wants);
        return ok(o);
    }

    public int ripe(int crop) {
        if (!in(crop, 0, now.crops.size() - 1)) {
            return no(1);
        }
        State s = now.copy();
        for (int i = 0; i <= 999; i++) {
            if (s.crops.get(crop).grown >= s.crops.get(crop).wants) {
                return ok(i);
            }
            s.pass();
        }
        return no(6);
    }

    /** In how many of the next n HOURS the FIELD is the KITE's (of any, if that is none). */
    private int lease(int c, int r, int kite, int n) {
        State s = now.copy();
        int hours = 0;
        for (int i = 0; i < n; i++) {
            int h = s.hour % 12;
            s.pass();
            int o = s.owner(c, r, h);
            if (o >= 0 && (kite < 0 || o == kite)) {
                hours++;
            }
        }
        return hours;
    }

    public int leaseOf(int column, int row, int kite, int n) {
        return now.land(column, row) && k(kite) && in(n, 0, 99) ? ok(lease(column, row, kite, n)) : no(1);
    }

    public int plant(int n) {
        if (!in(n, 1, 99) || now.wide == 0) {
            return no(in(n, 1, 99) ? 6 : 1);
        }
        int[] best = null;
        int most = -1;
        for (int[] f : now.fields()) {
            int hours = lease(f[0], f[1], NONE, n);
            if (hours > most) {
                most = hours;
                best = f;
            }
        }
        return ok(best[1] * 10 + best[0]);
    }

    public int planted(int n) {
        int field = plant(n);
        return field < 0 ? NONE : ok(lease(field % 10, field / 10, NONE, n));
    }

    private State ahead(int n) {
        State s = now.copy();
        for (int i = 0; i < n; i++) {
            s.pass();
        }
        return s;
    }

    public int purseIn(int kite, int n) {
        return k(kite) && in(n, 0, 99) ? ok(ahead(n).kites.get(kite).purse) : no(1);
    }

    public int tenantIn(int tenant, int n) {
        if (!in(tenant, 0, now.tenants.size() - 1) || !in(n, 0, 99)) {
            return no(1);
        }
        Tenant t = ahead(n).tenants.get(tenant);
        return ok(t.r * 10 + t.c);
    }

    public int cutIn(int kite) {
        if (!k(kite)) {
            return no(1);
        }
        for (int i = 0; i <= 99; i++) {
            if (ahead(i).kites.get(kite).cut) {
                return ok(i);
            }
        }
        return no(6);
    }

    public int fly(int kite, int column, int row, int n) {
        if (!k(kite) || !now.land(column, row) || !in(n, 1, 5)) {
            return no(1);
        }
        int best = -1;
        int[] bestSteps = null;
        int all = (int) Math.pow(5, n);
        for (int code = 0; code < all; code++) {
            int[] steps = new int[n];
            for (int i = n - 1, rest = code; i >= 0; i--, rest /= 5) {
                steps[i] = rest % 5;
            }
            int hours = flight(kite, column, row, steps);
            if (hours > best) {
                best = hours;
                bestSteps = steps;
            }
        }
        flown = bestSteps;
        return ok(best);
    }

    private int flight(int kite, int column, int row, int[] steps) {
        State s = now.copy();
        s.crops.clear();
        s.tenants.clear();
        int hours = 0;
        for (int step : steps) {
            if (!s.step(kite, step)) {
                return -1;
            }
            int h = s.hour % 12;
            s.pass();
            if (s.owner(column, row, h) == kite) {
                hours++;
            }
        }
        return hours;
    }

    public int flyAt(int k) {
        return k < 0 ? no(1) : k < flown.length ? ok(flown[k]) : no(6);
    }

    private int coverSetOf(int tray, int n, int hour) {
        if (!in(tray, 0, 3) || !in(n, 1, 20) || !h(hour)) {
            return no(1);
        }
        if (trays[tray] == null) {
            return no(2);
        }
        if (trays[tray].length < n) {
            return no(3);
        }
        for (int i = 0; i < n; i++) {
            long v = trays[tray][i];
            if (v < 0 || v > 99 || !now.land((int) (v % 10), (int) (v / 10))) {
                return no(5);
            }
        }
        for (int size = 0; size <= 6; size++) {
            for (int set = 0; set < 1 << now.kites.size(); set++) {
                boolean all = Integer.bitCount(set) == size;
                for (int i = 0; i < n && all; i++) {
                    int c = (int) trays[tray][i] % 10;
                    int r = (int) trays[tray][i] / 10;
                    int chosen = set;
                    all = now.shaders(c, r, hour).stream().anyMatch(k -> (chosen >> k & 1) == 1);
                }
                if (all) {
                    return ok(set);
                }
            }
        }
        return no(6);
    }

    public int cover(int tray, int n, int hour) {
        int set = coverSetOf(tray, n, hour);
        return set < 0 ? NONE : Integer.bitCount(set);
    }

    public int coverSet(int tray, int n, int hour) {
        return coverSetOf(tray, n, hour);
    }

    public int settle(int steps) {
        if (!in(steps, 0, 20)) {
            return no(1);
        }
        List<List<Integer>> choices = new ArrayList<>();
        for (Tenant t : now.tenants) {
            List<Integer> mine = new ArrayList<>();
            for (int[] f : now.fields()) {
                // five others can't take all of six FIELDS, so that more need not be tried
                if (mine.size() < 6 && State.steps(t, f) <= steps && now.owner(f[0], f[1], now.hour % 12) == t.kite) {
                    mine.add(f[1] * 10 + f[0]);
                }
            }
            choices.add(mine);
        }
        return ok(seats(choices, 0, new HashSet<>()));
    }

    private int seats(List<List<Integer>> choices, int tenant, Set<Integer> taken) {
        if (tenant == choices.size()) {
            return 0;
        }
        int best = seats(choices, tenant + 1, taken);
        for (int field : choices.get(tenant)) {
            if (taken.add(field)) {
                best = Math.max(best, 1 + seats(choices, tenant + 1, taken));
                taken.remove(field);
            }
        }
        return best;
    }

    private int stripWhy(int tray) {
        return trays[tray] == null ? 2 : trays[tray].length < now.wide ? 3 : 0;
    }

    public int strip(int kite, int row, int tray) {
        if (!k(kite) || !in(row, 0, now.deep - 1) || !in(tray, 0, 3)) {
            return no(1);
        }
        if (stripWhy(tray) != 0) {
            return no(stripWhy(tray));
        }
        List<Integer> strip = now.strip(kite, row);
        for (int i = 0; i < strip.size(); i++) {
            trays[tray][i] = strip.get(i);
        }
        return ok(strip.size());
    }

    public int suspects(int row, int tray) {
        if (!in(row, 0, now.deep - 1) || !in(tray, 0, 3)) {
            return no(1);
        }
        if (stripWhy(tray) != 0) {
            return no(stripWhy(tray));
        }
        int set = 0;
        for (int kite = 0; kite < now.kites.size(); kite++) {
            boolean same = true;
            for (int c = 0; c < now.wide; c++) {
                same &= now.strip(kite, row).get(c) == trays[tray][c];
            }
            set |= same ? 1 << kite : 0;
        }
        return ok(set);
    }

    public int telling() {
        if (now.wide == 0) {
            return no(6);
        }
        int best = 0;
        for (int row = 1; row < now.deep; row++) {
            if (now.unlike(row) > now.unlike(best)) {
                best = row;
            }
        }
        return ok(best);
    }

    public int strips(int row) {
        return in(row, 0, now.deep - 1) ? ok(now.unlike(row)) : no(1);
    }

    /** Lead of a over b, the turn being a's if ours holds. */
    private int lead(State s, int a, int b, int turns, boolean ours, int[] first) {
        if (turns == 0) {
            return s.owned(a, s.hour % 12) - s.owned(b, s.hour % 12);
        }
        int best = ours ? -1000 : 1000;
        for (int step = 0; step < 5; step++) {
            State t = s.copy();
            if (t.step(ours ? a : b, step)) {
                int lead = lead(t, a, b, turns - 1, !ours, new int[1]);
                if (ours ? lead > best : lead < best) {
                    best = lead;
                    first[0] = step;
                }
            }
        }
        return best;
    }

    public int duel(int a, int b, int n) {
        return k(a) && k(b) && a != b && in(n, 0, 4) ? ok(lead(now, a, b, n, true, new int[1])) : no(1);
    }

    public int duelStep(int a, int b, int n) {
        if (!k(a) || !k(b) || a == b || !in(n, 1, 4)) {
            return no(1);
        }
        int[] first = new int[1];
        lead(now, a, b, n, true, first);
        return ok(first[0]);
    }

    public int needed() {
        int h = now.hour % 12;
        int best = NONE;
        int most = -1;
        for (int k = 0; k < now.kites.size(); k++) {
            if (!now.up(k, h)) {
                continue;
            }
            State s = now.copy();
            s.kites.get(k).cut = true;
            int n = 0;
            for (int[] f : now.fields()) {
                if (now.owner(f[0], f[1], h) >= 0 && s.owner(f[0], f[1], h) < 0) {
                    n++;
                }
            }
            if (n > most) {
                most = n;
                best = k;
            }
        }
        return best < 0 ? no(6) : ok(best);
    }

    public boolean share(int kite) {
        if (!k(kite)) {
            return not(1);
        }
        int all = now.kites.stream().mapToInt(x -> x.purse).sum();
        return all == 0 ? not(6) : fraction(now.kites.get(kite).purse, all);
    }

    public boolean shaded() {
        if (now.wide == 0) {
            return not(6);
        }
        int all = 0;
        for (int i = 0; i < 12; i++) {
            all += now.owned(NONE, i);
        }
        return fraction(all, 12);
    }

    public int live(int seed) {
        if (!in(seed, 0, 9999)) {
            return no(1);
        }
        if (now.seasons == null) {
            return no(6);
        }
        lived = lifeOf(now, seed);
        return ok(lived.steps);
    }

    public int lived(int what) {
        if (!in(what, 0, 4)) {
            return no(1);
        }
        return lived == null ? no(6)
                : ok(new int[] {lived.missed, lived.hours, lived.walked, lived.lost, lived.left}[what]);
    }

    public boolean mean(int kite, int seed, int many) {
        if (!k(kite) || !in(many, 1, 20) || !in(seed, 0, 9999) || seed + many - 1 > 9999) {
            return not(1);
        }
        if (now.seasons == null) {
            return not(6);
        }
        long sum = 0;
        for (int i = 0; i < many; i++) {
            State s = now.copy();
            lifeOf(s, seed + i);
            sum += s.kites.get(kite).purse;
        }
        return fraction(sum, many);
    }

    public int mark() {
        if (marks.size() == 3) {
            return no(4);
        }
        marks.add(now.copy());
        return ok(marks.size());
    }

    public int undo() {
        if (marks.isEmpty()) {
            return no(6);
        }
        now = marks.remove(marks.size() - 1);
        return ok(marks.size());
    }
}
