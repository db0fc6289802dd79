/**
 * A windy county in which land belongs to the kite that shades it.
 * The words in capitals are those of the document (../shared/DOC.md).
 */
public final class KiteLand {
    public static final int NONE = -1;

    private static final int FINE = 0;
    private static final int WRONG_NUMBER = 1;
    private static final int MISSING = 2;
    private static final int TOO_SHORT = 3;
    private static final int TOO_MANY = 4;
    private static final int WRONG_IN_TRAY = 5;
    private static final int NONE_SUCH = 6;
    private static final int CANNOT_BE = 7;
    private static final int UNLIKE_SORTS = 8;
    private static final int FAULTY = 9;

    private static final int MOST_TRAYS = 4;
    private static final int MOST_PLACES = 60;
    private static final int MOST_BYTES = 900;
    private static final int MOST_SEASON_BYTES = 300;
    private static final int MOST_WIDE = 9;
    private static final int MOST_DEEP = 7;
    private static final int MOST_FIELDS = 63;
    private static final int DAY = 12;
    private static final int LAST_HOUR = 9999;
    private static final int MOST_PURSE = 9999;
    private static final int MOST_GROWN = 99;
    private static final int MOST_STRING = 9;
    private static final int MOST_KITES = 6;
    private static final int MOST_CROPS = 8;
    private static final int MOST_TENANTS = 6;
    private static final int MOST_MARKS = 3;
    private static final int MOST_AHEAD = 99;
    private static final int MOST_RIPE = 999;
    private static final int MOST_FLY = 5;
    private static final int MOST_TURNS = 4;
    private static final int MOST_COVERED = 20;
    private static final int MOST_SETTLE = 20;
    private static final int MOST_SEED = 9999;
    private static final int MOST_SEEDS = 20;

    private static final int STEPS = 5;
    private static final int[] STEP_ACROSS = {0, 0, 1, 0, -1};
    private static final int[] STEP_DOWN = {0, -1, 0, 1, 0};
    private static final int[] WIND_ACROSS = {0, 1, 1, 1, 0, -1, -1, -1};
    private static final int[] WIND_DOWN = {-1, -1, 0, 1, 1, 1, 0, -1};

    private int status = FINE;
    private long fractionTop = 0;
    private long fractionBottom = 1;
    private final Tray[] trays = new Tray[MOST_TRAYS];
    private final byte[] tape = new byte[MOST_BYTES];
    private int taped = 0;
    private final Scanner scanner = new Scanner();
    private final County now = new County();
    private final County would = new County();
    private final CountyReader countyReader = new CountyReader(scanner, would);
    private final Sky sky = new Sky(now);
    private final Seasons program = new Seasons();
    private final Seasons freshProgram = new Seasons();
    private final Life life = new Life();
    private final Life rehearsal = new Life();
    private final Plans plans = new Plans(would, sky);
    private final County[] markedCounties = new County[MOST_MARKS];
    private final Seasons[] markedPrograms = new Seasons[MOST_MARKS];
    private int marks = 0;

    public KiteLand() {
        for (int i = 0; i < MOST_TRAYS; i++) {
            trays[i] = new Tray();
        }
        for (int i = 0; i < MOST_MARKS; i++) {
            markedCounties[i] = new County();
            markedPrograms[i] = new Seasons();
        }
    }

    public int status() {
        return status;
    }

    public long top() {
        return fractionTop;
    }

    public long bottom() {
        return fractionBottom;
    }

    // ---- TRAYS

    public boolean tray(int tray, int sort, int many) {
        if (!isTray(tray) || sort < 0 || sort > 3 || many < 0 || many > MOST_PLACES) {
            return refuse(WRONG_NUMBER);
        }
        trays[tray].make(sort, many);
        return grant();
    }

    public boolean write(int tray, int place, long v) {
        int why = placeStatus(tray, place);
        if (why != FINE) {
            return refuse(why);
        }
        trays[tray].put(place, v);
        return grant();
    }

    public long read(int tray, int place) {
        int why = placeStatus(tray, place);
        if (why != FINE) {
            return deny(why);
        }
        status = FINE;
        return trays[tray].numbers[place];
    }

    public boolean pour(int from, int place, int to, int at, int many) {
        if (!isTray(from) || !isTray(to) || place < 0 || at < 0 || many < 0) {
            return refuse(WRONG_NUMBER);
        }
        Tray source = trays[from];
        Tray target = trays[to];
        if (!source.there || !target.there) {
            return refuse(MISSING);
        }
        if (source.sort != target.sort) {
            return refuse(UNLIKE_SORTS);
        }
        // by difference, so that no sum of huge numbers wraps around
        if (many > source.many - place || many > target.many - at) {
            return refuse(TOO_SHORT);
        }
        System.arraycopy(source.numbers, place, target.numbers, at, many);
        return grant();
    }

    // ---- texts

    public int feed(int a, int b, int c, int d, int e) {
        if (taped > MOST_BYTES - 20) {
            return NONE;
        }
        putOnTape(a);
        putOnTape(b);
        putOnTape(c);
        putOnTape(d);
        putOnTape(e);
        return taped;
    }

    public int county(int n) {
        if (n < 0 || n > taped) {
            return deny(WRONG_NUMBER);
        }
        scanner.open(tape, n);
        taped = 0;
        boolean taken = countyReader.readAll();
        if (!taken) {
            return deny(FAULTY);
        }
        now.copy(would);
        program.clear();
        return give(now.kiteCount);
    }

    public int seasons(int n) {
        if (n < 0 || n > taped || n > MOST_SEASON_BYTES) {
            return deny(WRONG_NUMBER);
        }
        scanner.open(tape, n);
        taped = 0;
        boolean taken = freshProgram.readAll(scanner, now);
        if (!taken) {
            return deny(FAULTY);
        }
        program.copy(freshProgram);
        return give(program.steps);
    }

    public int fault(int what) {
        return what == 0 ? scanner.fault : what == 1 ? scanner.faultPlace : NONE;
    }

    public int told(int what) {
        switch (what) {
            case 0: return give(now.wide);
            case 1: return give(now.deep);
            case 2: return give(now.kiteCount);
            case 3: return give(now.cropCount);
            case 4: return give(now.tenantCount);
            case 5: return give(now.noon);
            case 6: return give(now.law);
            case 7: return give(now.hour);
            case 8: lookNow(); return give(sky.up);
            case 9: return give(now.cutSet());
            case 10: return give(now.ripeSet());
            default: return deny(WRONG_NUMBER);
        }
    }

    public int wind(int hour, int what) {
        if (!isHourOfDay(hour) || what < 0 || what > 1) {
            return deny(WRONG_NUMBER);
        }
        return give(what == 0 ? now.directions[hour] : now.forces[hour]);
    }

    public int kite(int kite, int what) {
        if (!now.hasKite(kite)) {
            return deny(WRONG_NUMBER);
        }
        Kite one = now.kites[kite];
        switch (what) {
            case 0: return give(one.column);
            case 1: return give(one.row);
            case 2: return give(one.size);
            case 3: return give(one.string);
            case 4: return give(one.needs);
            case 5: return give(one.purse);
            case 6: return give(one.walked);
            case 7: return give(one.veers);
            default: return deny(WRONG_NUMBER);
        }
    }

    public int crop(int crop, int what) {
        if (!now.hasCrop(crop)) {
            return deny(WRONG_NUMBER);
        }
        Crop one = now.crops[crop];
        switch (what) {
            case 0: return give(one.column);
            case 1: return give(one.row);
            case 2: return give(one.wants);
            case 3: return give(one.grown);
            default: return deny(WRONG_NUMBER);
        }
    }

    public int tenant(int tenant, int what) {
        if (!now.hasTenant(tenant)) {
            return deny(WRONG_NUMBER);
        }
        Tenant one = now.tenants[tenant];
        switch (what) {
            case 0: return give(one.column);
            case 1: return give(one.row);
            case 2: return give(one.kite);
            case 3: return give(one.tilled);
            case 4: return give(one.idle);
            default: return deny(WRONG_NUMBER);
        }
    }

    // ---- what is whose

    public int stands(int kite, int hour, int what) {
        if (!now.hasKite(kite) || !isHourOfDay(hour) || what < 0 || what > 1) {
            return deny(WRONG_NUMBER);
        }
        sky.look(now, hour);
        if (!sky.isUp(kite)) {
            return deny(NONE_SUCH);
        }
        return give(what == 0 ? sky.columns[kite] : sky.rows[kite]);
    }

    public int owner(int column, int row, int hour) {
        if (!now.hasField(column, row) || !isHourOfDay(hour)) {
            return deny(WRONG_NUMBER);
        }
        sky.look(now, hour);
        int found = sky.ownerOf(column, row);
        return found == NONE ? deny(NONE_SUCH) : give(found);
    }

    public int shaders(int column, int row, int hour) {
        if (!now.hasField(column, row) || !isHourOfDay(hour)) {
            return deny(WRONG_NUMBER);
        }
        sky.look(now, hour);
        return give(sky.shadersOf(column, row));
    }

    public int estate(int kite, int hour) {
        if (!now.hasKite(kite) || !isHourOfDay(hour)) {
            return deny(WRONG_NUMBER);
        }
        sky.look(now, hour);
        return give(sky.fieldsOf(kite));
    }

    public int nobodys(int hour) {
        if (!isHourOfDay(hour)) {
            return deny(WRONG_NUMBER);
        }
        sky.look(now, hour);
        return give(now.wide * now.deep - sky.ownedFields());
    }

    public int disputed(int hour) {
        if (!isHourOfDay(hour)) {
            return deny(WRONG_NUMBER);
        }
        sky.look(now, hour);
        return give(sky.disputedFields());
    }

    public int crosses(int a, int b, int hour) {
        if (!now.hasKite(a) || !now.hasKite(b) || a == b || !isHourOfDay(hour)) {
            return deny(WRONG_NUMBER);
        }
        sky.look(now, hour);
        return give(sky.doCross(a, b) ? 1 : 0);
    }

    public int doomed() {
        lookNow();
        return give(sky.crossedSet());
    }

    public int lulls(int kite) {
        if (!now.hasKite(kite)) {
            return deny(WRONG_NUMBER);
        }
        int set = 0;
        for (int hour = 0; hour < DAY; hour++) {
            if (now.forces[hour] < now.kites[kite].needs) {
                set |= 1 << hour;
            }
        }
        return give(set);
    }

    public int busiest() {
        if (!now.hasLand()) {
            return deny(NONE_SUCH);
        }
        int best = 0;
        int most = NONE;
        for (int hour = 0; hour < DAY; hour++) {
            sky.look(now, hour);
            int owned = sky.ownedFields();
            if (owned > most) {
                most = owned;
                best = hour;
            }
        }
        return give(best);
    }

    public int greatest() {
        lookNow();
        int best = NONE;
        int most = 0;
        for (int kite = 0; kite < now.kiteCount; kite++) {
            int owned = sky.fieldsOf(kite);
            if (owned > most) {
                most = owned;
                best = kite;
            }
        }
        return best == NONE ? deny(NONE_SUCH) : give(best);
    }

    // ---- what is done

    public int hour(int many) {
        if (many < 1 || many > MOST_AHEAD) {
            return deny(WRONG_NUMBER);
        }
        if (now.hour + many > LAST_HOUR) {
            return deny(TOO_MANY);
        }
        return give(now.goBy(sky, many));
    }

    public int walk(int kite, int step) {
        if (!now.hasKite(kite) || step < 0 || step >= STEPS) {
            return deny(WRONG_NUMBER);
        }
        if (!now.mayStep(kite, step)) {
            return deny(CANNOT_BE);
        }
        now.stepHand(kite, step);
        return give(fieldNumber(now.kites[kite].column, now.kites[kite].row));
    }

    public boolean cut(int kite, boolean is) {
        if (!now.hasKite(kite)) {
            return refuse(WRONG_NUMBER);
        }
        if (now.kites[kite].isCut == is) {
            return refuse(CANNOT_BE);
        }
        now.kites[kite].isCut = is;
        return grant();
    }

    public int sell(int kite, int n) {
        if (!now.hasKite(kite) || n < -MOST_STRING || n > MOST_STRING) {
            return deny(WRONG_NUMBER);
        }
        int length = now.kites[kite].string + n;
        if (length < 0 || length > MOST_STRING) {
            return deny(CANNOT_BE);
        }
        now.kites[kite].string = length;
        return give(length);
    }

    public boolean blow(int hour, int direction, int force) {
        if (!isHourOfDay(hour) || direction < 0 || direction > 7 || force < 0 || force > 3) {
            return refuse(WRONG_NUMBER);
        }
        now.directions[hour] = direction;
        now.forces[hour] = force;
        return grant();
    }

    public boolean rule(int law) {
        if (law < 0 || law > 2) {
            return refuse(WRONG_NUMBER);
        }
        now.law = law;
        return grant();
    }

    public boolean lease(int tenant, int kite) {
        if (!now.hasTenant(tenant) || !now.hasKite(kite)) {
            return refuse(WRONG_NUMBER);
        }
        if (now.tenants[tenant].kite == kite) {
            return refuse(CANNOT_BE);
        }
        now.tenants[tenant].kite = kite;
        return grant();
    }

    public int reap(int crop) {
        if (!now.hasCrop(crop)) {
            return deny(WRONG_NUMBER);
        }
        Crop one = now.crops[crop];
        if (!one.isRipe()) {
            return deny(CANNOT_BE);
        }
        lookNow();
        int landlord = sky.ownerOf(one.column, one.row);
        if (landlord == NONE) {
            return deny(NONE_SUCH);
        }
        one.grown = 0;
        now.kites[landlord].earn(one.wants);
        return give(landlord);
    }

    // ---- what would be

    public int ripe(int crop) {
        if (!now.hasCrop(crop)) {
            return deny(WRONG_NUMBER);
        }
        would.copy(now);
        Crop one = would.crops[crop];
        for (int hours = 0; hours <= MOST_RIPE; hours++) {
            if (one.isRipe()) {
                return give(hours);
            }
            would.loseCrossed(sky);
            if (sky.ownerOf(one.column, one.row) != NONE) {
                one.grow();
            }
            would.hour++;
        }
        return deny(NONE_SUCH);
    }

    public int leaseOf(int column, int row, int kite, int n) {
        if (!now.hasField(column, row) || !now.hasKite(kite) || !isAhead(n)) {
            return deny(WRONG_NUMBER);
        }
        would.copy(now);
        int owned = 0;
        for (int i = 0; i < n; i++) {
            would.loseCrossed(sky);
            if (sky.ownerOf(column, row) == kite) {
                owned++;
            }
            would.hour++;
        }
        return give(owned);
    }

    public int plant(int n) {
        if (n < 1 || n > MOST_AHEAD) {
            return deny(WRONG_NUMBER);
        }
        if (!now.hasLand()) {
            return deny(NONE_SUCH);
        }
        would.copy(now);
        plans.seekPlanting(n);
        return give(plans.bestField);
    }

    public int planted(int n) {
        if (n < 1 || n > MOST_AHEAD) {
            return deny(WRONG_NUMBER);
        }
        if (!now.hasLand()) {
            return deny(NONE_SUCH);
        }
        would.copy(now);
        plans.seekPlanting(n);
        return give(plans.bestHours);
    }

    public int purseIn(int kite, int n) {
        if (!now.hasKite(kite) || !isAhead(n)) {
            return deny(WRONG_NUMBER);
        }
        goAhead(n);
        return give(would.kites[kite].purse);
    }

    public int tenantIn(int tenant, int n) {
        if (!now.hasTenant(tenant) || !isAhead(n)) {
            return deny(WRONG_NUMBER);
        }
        goAhead(n);
        return give(fieldNumber(would.tenants[tenant].column, would.tenants[tenant].row));
    }

    public int cutIn(int kite) {
        if (!now.hasKite(kite)) {
            return deny(WRONG_NUMBER);
        }
        would.copy(now);
        for (int hours = 0; hours <= MOST_AHEAD; hours++) {
            if (would.kites[kite].isCut) {
                return give(hours);
            }
            would.loseCrossed(sky);
            would.hour++;
        }
        return deny(NONE_SUCH);
    }

    public int fly(int kite, int column, int row, int n) {
        if (!now.hasKite(kite) || !now.hasField(column, row) || n < 1 || n > MOST_FLY) {
            return deny(WRONG_NUMBER);
        }
        would.copy(now);
        plans.seekFlight(kite, column, row, n);
        return give(plans.flownHours);
    }

    public int flyAt(int k) {
        if (k < 0) {
            return deny(WRONG_NUMBER);
        }
        return k >= plans.flownSteps ? deny(NONE_SUCH) : give(plans.flown[k]);
    }

    // ---- plans

    public int cover(int tray, int n, int hour) {
        int why = coverStatus(tray, n, hour);
        return why == FINE ? give(Integer.bitCount(plans.coveringSet)) : deny(why);
    }

    public int coverSet(int tray, int n, int hour) {
        int why = coverStatus(tray, n, hour);
        return why == FINE ? give(plans.coveringSet) : deny(why);
    }

    public int settle(int steps) {
        if (steps < 0 || steps > MOST_SETTLE) {
            return deny(WRONG_NUMBER);
        }
        would.copy(now);
        return give(plans.mostSettled(steps));
    }

    public int strip(int kite, int row, int tray) {
        if (!now.hasKite(kite) || !now.hasRow(row) || !isTray(tray)) {
            return deny(WRONG_NUMBER);
        }
        int why = stripTrayStatus(tray);
        if (why != FINE) {
            return deny(why);
        }
        would.copy(now);
        plans.countStrips(row);
        for (int column = 0; column < now.wide; column++) {
            trays[tray].put(column, plans.strips[kite][column]);
        }
        return give(now.wide);
    }

    public int suspects(int row, int tray) {
        if (!now.hasRow(row) || !isTray(tray)) {
            return deny(WRONG_NUMBER);
        }
        int why = stripTrayStatus(tray);
        if (why != FINE) {
            return deny(why);
        }
        would.copy(now);
        plans.countStrips(row);
        int set = 0;
        for (int kite = 0; kite < now.kiteCount; kite++) {
            if (plans.isStrip(kite, trays[tray].numbers)) {
                set |= 1 << kite;
            }
        }
        return give(set);
    }

    public int telling() {
        if (!now.hasLand()) {
            return deny(NONE_SUCH);
        }
        would.copy(now);
        int best = 0;
        int most = NONE;
        for (int row = 0; row < now.deep; row++) {
            int unlike = plans.unlikeStrips(row);
            if (unlike > most) {
                most = unlike;
                best = row;
            }
        }
        return give(best);
    }

    public int strips(int row) {
        if (!now.hasRow(row)) {
            return deny(WRONG_NUMBER);
        }
        would.copy(now);
        return give(plans.unlikeStrips(row));
    }

    public int duel(int a, int b, int n) {
        if (!now.hasKite(a) || !now.hasKite(b) || a == b || n < 0 || n > MOST_TURNS) {
            return deny(WRONG_NUMBER);
        }
        would.copy(now);
        plans.seekDuel(a, b, n);
        return give(plans.bestLead);
    }

    public int duelStep(int a, int b, int n) {
        if (!now.hasKite(a) || !now.hasKite(b) || a == b || n < 1 || n > MOST_TURNS) {
            return deny(WRONG_NUMBER);
        }
        would.copy(now);
        plans.seekDuel(a, b, n);
        return give(plans.bestSteps[n]);
    }

    public int needed() {
        lookNow();
        int best = NONE;
        int most = NONE;
        for (int kite = 0; kite < now.kiteCount; kite++) {
            if (sky.isUp(kite)) {
                int alone = sky.shadedAloneBy(kite);
                if (alone > most) {
                    most = alone;
                    best = kite;
                }
            }
        }
        return best == NONE ? deny(NONE_SUCH) : give(best);
    }

    public boolean share(int kite) {
        if (!now.hasKite(kite)) {
            return refuse(WRONG_NUMBER);
        }
        long all = 0;
        for (int i = 0; i < now.kiteCount; i++) {
            all += now.kites[i].purse;
        }
        if (all == 0) {
            return refuse(NONE_SUCH);
        }
        tellFraction(now.kites[kite].purse, all);
        return grant();
    }

    public boolean shaded() {
        if (!now.hasLand()) {
            return refuse(NONE_SUCH);
        }
        long owned = 0;
        for (int hour = 0; hour < DAY; hour++) {
            sky.look(now, hour);
            owned += sky.ownedFields();
        }
        tellFraction(owned, DAY);
        return grant();
    }

    // ---- SEASONS

    public int live(int seed) {
        if (seed < 0 || seed > MOST_SEED) {
            return deny(WRONG_NUMBER);
        }
        if (!program.there) {
            return deny(NONE_SUCH);
        }
        life.run(program, now, sky, seed);
        return give(life.steps);
    }

    public int lived(int what) {
        if (what < 0 || what > 4) {
            return deny(WRONG_NUMBER);
        }
        if (!life.there) {
            return deny(NONE_SUCH);
        }
        switch (what) {
            case 0: return give(life.missed);
            case 1: return give(life.hours);
            case 2: return give(life.walked);
            case 3: return give(life.lost);
            default: return give(life.isLeft ? 1 : 0);
        }
    }

    public boolean mean(int kite, int seed, int many) {
        if (!now.hasKite(kite) || seed < 0 || many < 1 || many > MOST_SEEDS || seed > MOST_SEED + 1 - many) {
            return refuse(WRONG_NUMBER);
        }
        if (!program.there) {
            return refuse(NONE_SUCH);
        }
        long purses = 0;
        for (int i = 0; i < many; i++) {
            would.copy(now);
            rehearsal.run(program, would, sky, seed + i);
            purses += would.kites[kite].purse;
        }
        tellFraction(purses, many);
        return grant();
    }

    // ---- MARKS

    public int mark() {
        if (marks == MOST_MARKS) {
            return deny(TOO_MANY);
        }
        markedCounties[marks].copy(now);
        markedPrograms[marks].copy(program);
        marks++;
        return give(marks);
    }

    public int undo() {
        if (marks == 0) {
            return deny(NONE_SUCH);
        }
        marks--;
        now.copy(markedCounties[marks]);
        program.copy(markedPrograms[marks]);
        return give(marks);
    }

    // ---- what several calls share

    private int give(int value) {
        status = FINE;
        return value;
    }

    private int deny(int why) {
        status = why;
        return NONE;
    }

    private boolean grant() {
        status = FINE;
        return true;
    }

    private boolean refuse(int why) {
        status = why;
        return false;
    }

    private void tellFraction(long top, long bottom) {
        long divisor = top;
        long rest = bottom;
        // Euclid's steps on numbers below 2^63 are fewer than 100
        for (int i = 0; i < 100 && rest != 0; i++) {
            long next = divisor % rest;
            divisor = rest;
            rest = next;
        }
        if (divisor > 0) {
            fractionTop = top / divisor;
            fractionBottom = bottom / divisor;
        }
    }

    private boolean isTray(int tray) {
        return tray >= 0 && tray < MOST_TRAYS;
    }

    private boolean isHourOfDay(int hour) {
        return hour >= 0 && hour < DAY;
    }

    private boolean isAhead(int n) {
        return n >= 0 && n <= MOST_AHEAD;
    }

    private int fieldNumber(int column, int row) {
        return row * 10 + column;
    }

    private int placeStatus(int tray, int place) {
        if (!isTray(tray)) {
            return WRONG_NUMBER;
        }
        if (!trays[tray].there) {
            return MISSING;
        }
        return place < 0 || place >= trays[tray].many ? TOO_SHORT : FINE;
    }

    private int stripTrayStatus(int tray) {
        if (!trays[tray].there) {
            return MISSING;
        }
        return trays[tray].many < now.wide ? TOO_SHORT : FINE;
    }

    private int coverStatus(int tray, int n, int hour) {
        if (!isTray(tray) || n < 1 || n > MOST_COVERED || !isHourOfDay(hour)) {
            return WRONG_NUMBER;
        }
        if (!trays[tray].there) {
            return MISSING;
        }
        if (trays[tray].many < n) {
            return TOO_SHORT;
        }
        for (int i = 0; i < n; i++) {
            if (!now.hasFieldNumber(trays[tray].numbers[i])) {
                return WRONG_IN_TRAY;
            }
        }
        sky.look(now, hour);
        return plans.seekCover(trays[tray].numbers, n) ? FINE : NONE_SUCH;
    }

    private void putOnTape(int word) {
        for (int shift = 24; shift >= 0; shift -= 8) {
            tape[taped] = (byte) (word >> shift);
            taped++;
        }
    }

    private void lookNow() {
        sky.look(now, now.hourOfDay());
    }

    private void goAhead(int n) {
        would.copy(now);
        would.goBy(sky, n);
    }

    /** A row of numbers, cut to its sort. */
    private static final class Tray {
        boolean there = false;
        int sort = 0;
        int many = 0;
        final long[] numbers = new long[MOST_PLACES];

        void make(int newSort, int newMany) {
            there = true;
            sort = newSort;
            many = newMany;
            for (int i = 0; i < MOST_PLACES; i++) {
                numbers[i] = 0;
            }
        }

        void put(int place, long v) {
            switch (sort) {
                case 0: numbers[place] = (byte) v; break;
                case 1: numbers[place] = (short) v; break;
                case 2: numbers[place] = (int) v; break;
                default: numbers[place] = v; break;
            }
        }
    }

    /** A KITE and its HAND. */
    private static final class Kite {
        long name = 0;
        int column = 0;
        int row = 0;
        int size = 1;
        int string = 3;
        int needs = 1;
        int veers = 0;
        int purse = 0;
        int walked = 0;
        boolean isCut = false;

        void begin(long newName, int newColumn, int newRow) {
            name = newName;
            column = newColumn;
            row = newRow;
            size = 1;
            string = 3;
            needs = 1;
            veers = 0;
            purse = 0;
            walked = 0;
            isCut = false;
        }

        void copy(Kite other) {
            name = other.name;
            column = other.column;
            row = other.row;
            size = other.size;
            string = other.string;
            needs = other.needs;
            veers = other.veers;
            purse = other.purse;
            walked = other.walked;
            isCut = other.isCut;
        }

        void earn(int n) {
            purse = Math.min(MOST_PURSE, purse + n);
        }
    }

    /** A CROP on its FIELD. */
    private static final class Crop {
        long name = 0;
        int column = 0;
        int row = 0;
        int wants = 1;
        int grown = 0;

        void begin(long newName, int newColumn, int newRow, int newWants) {
            name = newName;
            column = newColumn;
            row = newRow;
            wants = newWants;
            grown = 0;
        }

        void copy(Crop other) {
            name = other.name;
            column = other.column;
            row = other.row;
            wants = other.wants;
            grown = other.grown;
        }

        boolean isRipe() {
            return grown >= wants;
        }

        void grow() {
            grown = Math.min(MOST_GROWN, grown + 1);
        }
    }

    /** A TENANT, who follows the shade of his KITE. */
    private static final class Tenant {
        long name = 0;
        int column = 0;
        int row = 0;
        int kite = 0;
        int tilled = 0;
        int idle = 0;

        void begin(long newName, int newColumn, int newRow, int newKite) {
            name = newName;
            column = newColumn;
            row = newRow;
            kite = newKite;
            tilled = 0;
            idle = 0;
        }

        void copy(Tenant other) {
            name = other.name;
            column = other.column;
            row = other.row;
            kite = other.kite;
            tilled = other.tilled;
            idle = other.idle;
        }

        int stepsTo(int toColumn, int toRow) {
            return Math.abs(toColumn - column) + Math.abs(toRow - row);
        }

        void stepTowards(int toColumn, int toRow) {
            if (toColumn != column) {
                column += toColumn > column ? 1 : -1;
            } else if (toRow != row) {
                row += toRow > row ? 1 : -1;
            }
        }
    }

    /** A COUNTY with all that became of it. */
    private static final class County {
        int wide = 0;
        int deep = 0;
        int noon = 6;
        int law = 0;
        int hour = 0;
        int kiteCount = 0;
        int cropCount = 0;
        int tenantCount = 0;
        final int[] directions = new int[DAY];
        final int[] forces = new int[DAY];
        final Kite[] kites = new Kite[MOST_KITES];
        final Crop[] crops = new Crop[MOST_CROPS];
        final Tenant[] tenants = new Tenant[MOST_TENANTS];

        County() {
            for (int i = 0; i < MOST_KITES; i++) {
                kites[i] = new Kite();
            }
            for (int i = 0; i < MOST_CROPS; i++) {
                crops[i] = new Crop();
            }
            for (int i = 0; i < MOST_TENANTS; i++) {
                tenants[i] = new Tenant();
            }
            clear();
        }

        void clear() {
            wide = 0;
            deep = 0;
            noon = 6;
            law = 0;
            hour = 0;
            kiteCount = 0;
            cropCount = 0;
            tenantCount = 0;
            for (int i = 0; i < DAY; i++) {
                directions[i] = 2;
                forces[i] = 2;
            }
        }

        void copy(County other) {
            wide = other.wide;
            deep = other.deep;
            noon = other.noon;
            law = other.law;
            hour = other.hour;
            kiteCount = other.kiteCount;
            cropCount = other.cropCount;
            tenantCount = other.tenantCount;
            System.arraycopy(other.directions, 0, directions, 0, DAY);
            System.arraycopy(other.forces, 0, forces, 0, DAY);
            for (int i = 0; i < kiteCount; i++) {
                kites[i].copy(other.kites[i]);
            }
            for (int i = 0; i < cropCount; i++) {
                crops[i].copy(other.crops[i]);
            }
            for (int i = 0; i < tenantCount; i++) {
                tenants[i].copy(other.tenants[i]);
            }
        }

        boolean hasLand() {
            return wide > 0 && deep > 0;
        }

        boolean hasKite(int i) {
            return i >= 0 && i < kiteCount;
        }

        boolean hasCrop(int i) {
            return i >= 0 && i < cropCount;
        }

        boolean hasTenant(int i) {
            return i >= 0 && i < tenantCount;
        }

        boolean hasRow(int i) {
            return i >= 0 && i < deep;
        }

        boolean hasField(int column, int row) {
            return column >= 0 && column < wide && hasRow(row);
        }

        boolean hasFieldNumber(long number) {
            return number >= 0 && number < 10 * MOST_DEEP && hasField((int) number % 10, (int) number / 10);
        }

        boolean hasName(long name) {
            for (int i = 0; i < tenantCount; i++) {
                if (tenants[i].name == name) {
                    return true;
                }
            }
            return kiteNamed(name) != NONE || cropNamed(name) != NONE;
        }

        int kiteNamed(long name) {
            for (int i = 0; i < kiteCount; i++) {
                if (kites[i].name == name) {
                    return i;
                }
            }
            return NONE;
        }

        int cropNamed(long name) {
            for (int i = 0; i < cropCount; i++) {
                if (crops[i].name == name) {
                    return i;
                }
            }
            return NONE;
        }

        int hourOfDay() {
            return hour % DAY;
        }

        int cutSet() {
            int set = 0;
            for (int i = 0; i < kiteCount; i++) {
                if (kites[i].isCut) {
                    set |= 1 << i;
                }
            }
            return set;
        }

        void putCutSet(int set) {
            for (int i = 0; i < kiteCount; i++) {
                kites[i].isCut = (set >> i & 1) == 1;
            }
        }

        int ripeSet() {
            int set = 0;
            for (int i = 0; i < cropCount; i++) {
                if (crops[i].isRipe()) {
                    set |= 1 << i;
                }
            }
            return set;
        }

        boolean mayStep(int kite, int step) {
            return hasField(kites[kite].column + STEP_ACROSS[step], kites[kite].row + STEP_DOWN[step]);
        }

        void stepHand(int kite, int step) {
            kites[kite].column += STEP_ACROSS[step];
            kites[kite].row += STEP_DOWN[step];
            // who stays has not walked
            if (step != 0) {
                kites[kite].walked++;
            }
        }

        /** So many HOURS go by: the set of KITES that were CUT in them. */
        int goBy(Sky sky, int many) {
            int lost = 0;
            for (int i = 0; i < many; i++) {
                lost |= loseCrossed(sky);
                growCrops(sky);
                for (int j = 0; j < tenantCount; j++) {
                    follow(tenants[j], sky);
                }
                hour++;
            }
            return lost;
        }

        /** The first part of an HOUR; the sky is then that behind all CUTS. */
        int loseCrossed(Sky sky) {
            sky.raise(this, hourOfDay(), cutSet());
            int lost = sky.crossedSet();
            putCutSet(cutSet() | lost);
            sky.drop(lost);
            sky.castShade();
            return lost;
        }

        private void growCrops(Sky sky) {
            for (int i = 0; i < cropCount; i++) {
                int landlord = sky.ownerOf(crops[i].column, crops[i].row);
                if (landlord != NONE) {
                    crops[i].grow();
                    kites[landlord].earn(1);
                }
            }
        }

        private void follow(Tenant one, Sky sky) {
            if (sky.ownerOf(one.column, one.row) == one.kite) {
                one.tilled++;
                kites[one.kite].earn(1);
                return;
            }
            int near = sky.nearestOf(one);
            if (near == NONE) {
                one.idle++;
            } else {
                one.stepTowards(near % MOST_WIDE, near / MOST_WIDE);
            }
        }
    }

    /** Where the KITES of a COUNTY stand in one HOUR of the day, and whose the FIELDS are by that. */
    private static final class Sky {
        private County county;
        int up = 0;
        final int[] columns = new int[MOST_KITES];
        final int[] rows = new int[MOST_KITES];
        private final int[] reaches = new int[MOST_KITES];
        // by FIELDS, row times MOST_WIDE and column
        private final int[] shaderSets = new int[MOST_FIELDS];
        private final int[] owners = new int[MOST_FIELDS];

        Sky(County county) {
            this.county = county;
        }

        void look(County from, int hourOfDay) {
            raise(from, hourOfDay, from.cutSet());
            castShade();
        }

        /** Looks as if no KITE was CUT. */
        void lookPastCuts(County from, int hourOfDay) {
            raise(from, hourOfDay, 0);
            castShade();
        }

        /** Puts the KITES where they stand; their shade is that of an earlier look still. */
        void raise(County from, int hourOfDay, int cuts) {
            county = from;
            up = 0;
            int force = from.forces[hourOfDay];
            int direction = from.directions[hourOfDay];
            for (int i = 0; i < from.kiteCount; i++) {
                Kite one = from.kites[i];
                int far = one.string * force / 3;
                int towards = (direction + one.veers) % 8;
                columns[i] = one.column + WIND_ACROSS[towards] * far;
                rows[i] = one.row + WIND_DOWN[towards] * far;
                reaches[i] = hourOfDay == from.noon ? Math.max(0, one.size - 1) : one.size;
                if (force >= one.needs) {
                    up |= 1 << i;
                }
            }
            drop(cuts);
        }

        void drop(int set) {
            up &= ~set;
        }

        void castShade() {
            for (int i = 0; i < MOST_FIELDS; i++) {
                shaderSets[i] = 0;
                owners[i] = NONE;
            }
            for (int i = 0; i < county.kiteCount; i++) {
                if (isUp(i)) {
                    castShadeOf(i);
                }
            }
        }

        private void castShadeOf(int kite) {
            int lastRow = Math.min(county.deep - 1, rows[kite] + reaches[kite]);
            int lastColumn = Math.min(county.wide - 1, columns[kite] + reaches[kite]);
            for (int row = Math.max(0, rows[kite] - reaches[kite]); row <= lastRow; row++) {
                for (int column = Math.max(0, columns[kite] - reaches[kite]); column <= lastColumn; column++) {
                    int field = row * MOST_WIDE + column;
                    owners[field] = ownerWith(field, kite);
                    shaderSets[field] |= 1 << kite;
                }
            }
        }

        /** The OWNER of a FIELD that this KITE SHADES behind all KITES ahead of it. */
        private int ownerWith(int field, int kite) {
            if (shaderSets[field] == 0) {
                return kite;
            }
            int owner = owners[field];
            if (county.law == 2 || owner == NONE) {
                return NONE;
            }
            // by SIZE as told, though NOON may have made it less
            boolean isGreater = county.kites[kite].size > county.kites[owner].size;
            return county.law == 1 && isGreater ? kite : owner;
        }

        boolean isUp(int kite) {
            return (up >> kite & 1) == 1;
        }

        int shadersOf(int column, int row) {
            return shaderSets[row * MOST_WIDE + column];
        }

        int ownerOf(int column, int row) {
            return owners[row * MOST_WIDE + column];
        }

        int ownedFields() {
            int many = 0;
            for (int i = 0; i < MOST_FIELDS; i++) {
                if (owners[i] != NONE) {
                    many++;
                }
            }
            return many;
        }

        int disputedFields() {
            int many = 0;
            for (int i = 0; i < MOST_FIELDS; i++) {
                if (Integer.bitCount(shaderSets[i]) > 1) {
                    many++;
                }
            }
            return many;
        }

        int fieldsOf(int kite) {
            int many = 0;
            for (int i = 0; i < MOST_FIELDS; i++) {
                if (owners[i] == kite) {
                    many++;
                }
            }
            return many;
        }

        /** By every LAW just these FIELDS have an OWNER with the KITE and none without it. */
        int shadedAloneBy(int kite) {
            int many = 0;
            for (int i = 0; i < MOST_FIELDS; i++) {
                if (shaderSets[i] == 1 << kite) {
                    many++;
                }
            }
            return many;
        }

        /** The FIELD of a TENANT's KITE that is nearest to him, as row times MOST_WIDE and column. */
        int nearestOf(Tenant one) {
            int best = NONE;
            int least = MOST_WIDE + MOST_DEEP;
            for (int row = 0; row < county.deep; row++) {
                for (int column = 0; column < county.wide; column++) {
                    if (ownerOf(column, row) == one.kite && one.stepsTo(column, row) < least) {
                        least = one.stepsTo(column, row);
                        best = row * MOST_WIDE + column;
                    }
                }
            }
            return best;
        }

        /** The KITES that lose their STRING to another in this HOUR. */
        int crossedSet() {
            int set = 0;
            for (int a = 0; a < county.kiteCount; a++) {
                for (int b = a + 1; b < county.kiteCount; b++) {
                    if (doCross(a, b)) {
                        set |= shorterOf(a, b);
                    }
                }
            }
            return set;
        }

        private int shorterOf(int a, int b) {
            int longer = county.kites[a].string - county.kites[b].string;
            if (longer == 0) {
                return 1 << a | 1 << b;
            }
            return longer < 0 ? 1 << a : 1 << b;
        }

        /** Whether each STRING has one end of the other on either side of its line, none on it. */
        boolean doCross(int a, int b) {
            if ((up >> a & up >> b & 1) == 0) {
                return false;
            }
            Kite one = county.kites[a];
            Kite other = county.kites[b];
            int across = columns[a] - one.column;
            int down = rows[a] - one.row;
            int otherAcross = columns[b] - other.column;
            int otherDown = rows[b] - other.row;
            int gapAcross = other.column - one.column;
            int gapDown = other.row - one.row;
            int turn = across * otherDown - down * otherAcross;
            int otherHand = across * gapDown - down * gapAcross;
            int hand = otherAcross * gapDown - otherDown * gapAcross;
            return otherHand * (otherHand + turn) < 0 && hand * (hand + turn) < 0;
        }
    }

    /** Takes a TEXT apart into TOKENS and keeps its first FAULT. */
    private static final class Scanner {
        static final int NO_FAULT = 0;
        static final int NO_TOKEN = 1;
        static final int UNFIT = 2;
        static final int WRONG_NAME = 3;
        static final int WRONG_VALUE = 4;
        static final int TOLD_ALREADY = 5;
        static final int ONE_TOO_MANY = 6;
        static final int TOO_DEEP = 7;

        private static final int END = 0;
        private static final int BAD = 1;
        private static final int WORD = 2;
        private static final int NUMBER = 3;
        private static final int SIGN = 4;

        private static final int MOST_DIGITS = 4;
        private static final int MOST_LETTERS = 8;
        /** The WORDS that are no NAMES, a blank behind each. */
        private static final String RESERVED = "land by wind noon law kite at size string needs veers crop wants tenant of hour walk cut mend any when purse ripe up loop end stop ";

        private final byte[] text = new byte[MOST_BYTES];
        private int length = 0;
        private int kind = END;
        private int start = 0;
        private int end = 0;
        private int number = 0;
        long name = 0;
        int value = 0;
        /** Of the TEXT opened latest; none was as yet. */
        int fault = NONE;
        int faultPlace = NONE;

        void open(byte[] tape, int n) {
            System.arraycopy(tape, 0, text, 0, n);
            length = n;
            end = 0;
            fault = NO_FAULT;
            faultPlace = NONE;
            next();
        }

        void next() {
            start = end;
            while (start < length && (text[start] == 10 || text[start] == 32)) {
                start++;
            }
            end = start;
            if (start >= length) {
                kind = END;
            } else if (text[start] >= 'a' && text[start] <= 'z') {
                nextWord();
            } else if (text[start] >= '0' && text[start] <= '9') {
                nextNumber();
            } else {
                kind = isSign(text[start]) ? SIGN : BAD;
                end = start + 1;
            }
        }

        private void nextWord() {
            kind = WORD;
            name = 0;
            while (end < length && text[end] >= 'a' && text[end] <= 'z') {
                // WORDS of more than 12 letters wrap around, but those are no NAMES
                name = name * 32 + (text[end] - 'a' + 1);
                end++;
            }
        }

        private void nextNumber() {
            number = 0;
            while (end < length && text[end] >= '0' && text[end] <= '9') {
                number = number * 10 + (text[end] - '0');
                end++;
            }
            kind = end - start > MOST_DIGITS ? BAD : NUMBER;
        }

        private boolean isSign(int sign) {
            return sign == ';' || sign == '<' || sign == '>' || sign == '=';
        }

        boolean isAtEnd() {
            return kind == END;
        }

        boolean isWord(String word) {
            if (kind != WORD || word.length() != end - start) {
                return false;
            }
            for (int i = 0; i < word.length(); i++) {
                if (word.charAt(i) != text[start + i]) {
                    return false;
                }
            }
            return true;
        }

        boolean isSignOf(char sign) {
            return kind == SIGN && text[start] == sign;
        }

        private boolean isReserved() {
            long word = 0;
            for (int i = 0; i < RESERVED.length(); i++) {
                if (RESERVED.charAt(i) != ' ') {
                    word = word * 32 + (RESERVED.charAt(i) - 'a' + 1);
                } else if (word == name) {
                    return true;
                } else {
                    word = 0;
                }
            }
            return false;
        }

        /** The FAULT of the TOKEN that is come to; always false. */
        boolean fail(int why) {
            fault = kind == BAD ? NO_TOKEN : why;
            faultPlace = start;
            return false;
        }

        boolean takeWord(String word) {
            if (!isWord(word)) {
                return fail(UNFIT);
            }
            next();
            return true;
        }

        boolean takeSign(char sign) {
            if (!isSignOf(sign)) {
                return fail(UNFIT);
            }
            next();
            return true;
        }

        /** Takes a NUMBER, which is the value then. */
        boolean takeNumber(int least, int most) {
            if (kind != NUMBER) {
                return fail(UNFIT);
            }
            if (number < least || number > most) {
                return fail(WRONG_VALUE);
            }
            value = number;
            next();
            return true;
        }

        /** Whether a NAME stands here; it is not passed, so that it can still be refused. */
        boolean isNameHere() {
            return kind == WORD && end - start <= MOST_LETTERS && !isReserved() || fail(UNFIT);
        }
    }

    /** Reads a COUNTY, whose TEXT the scanner has open. */
    private static final class CountyReader {
        private final Scanner scanner;
        private final County county;
        private boolean hasNoon = false;
        private boolean hasLaw = false;
        private long name = 0;
        private int column = 0;
        private int row = 0;

        CountyReader(Scanner scanner, County county) {
            this.scanner = scanner;
            this.county = county;
        }

        boolean readAll() {
            county.clear();
            hasNoon = false;
            hasLaw = false;
            for (int i = 0; i < MOST_BYTES && !scanner.isAtEnd(); i++) {
                boolean isRead = county.hasLand() ? readPart() : readLand();
                if (!isRead || !scanner.takeSign(';')) {
                    return false;
                }
            }
            return true;
        }

        private boolean readPart() {
            if (scanner.isWord("wind")) {
                return readWind();
            }
            if (scanner.isWord("noon")) {
                return readNoon();
            }
            if (scanner.isWord("law")) {
                return readLaw();
            }
            if (scanner.isWord("kite")) {
                return readKite();
            }
            if (scanner.isWord("crop")) {
                return readCrop();
            }
            if (scanner.isWord("tenant")) {
                return readTenant();
            }
            return scanner.fail(scanner.isWord("land") ? Scanner.TOLD_ALREADY : Scanner.UNFIT);
        }

        private boolean readLand() {
            if (!scanner.takeWord("land") || !scanner.takeNumber(1, MOST_WIDE)) {
                return false;
            }
            county.wide = scanner.value;
            if (!scanner.takeWord("by") || !scanner.takeNumber(1, MOST_DEEP)) {
                return false;
            }
            county.deep = scanner.value;
            return true;
        }

        private boolean readWind() {
            scanner.next();
            if (!scanner.takeNumber(0, DAY - 1)) {
                return false;
            }
            int hour = scanner.value;
            if (!scanner.takeNumber(0, 7)) {
                return false;
            }
            county.directions[hour] = scanner.value;
            if (!scanner.takeNumber(0, 3)) {
                return false;
            }
            county.forces[hour] = scanner.value;
            return true;
        }

        private boolean readNoon() {
            if (hasNoon) {
                return scanner.fail(Scanner.TOLD_ALREADY);
            }
            hasNoon = true;
            scanner.next();
            if (!scanner.takeNumber(0, DAY - 1)) {
                return false;
            }
            county.noon = scanner.value;
            return true;
        }

        private boolean readLaw() {
            if (hasLaw) {
                return scanner.fail(Scanner.TOLD_ALREADY);
            }
            hasLaw = true;
            scanner.next();
            if (!scanner.takeNumber(0, 2)) {
                return false;
            }
            county.law = scanner.value;
            return true;
        }

        private boolean readKite() {
            if (county.kiteCount >= MOST_KITES) {
                return scanner.fail(Scanner.ONE_TOO_MANY);
            }
            scanner.next();
            if (!readNewName() || !readField()) {
                return false;
            }
            Kite one = county.kites[county.kiteCount];
            one.begin(name, column, row);
            county.kiteCount++;
            if (readTrait("size", 2)) {
                one.size = scanner.value;
            }
            if (readTrait("string", MOST_STRING)) {
                one.string = scanner.value;
            }
            if (readTrait("needs", 3)) {
                one.needs = scanner.value;
            }
            if (readTrait("veers", 7)) {
                one.veers = scanner.value;
            }
            return scanner.fault == Scanner.NO_FAULT;
        }

        /** Whether a trait is told, and as it can be; behind a FAULT nothing more is read. */
        private boolean readTrait(String word, int most) {
            if (scanner.fault != Scanner.NO_FAULT || !scanner.isWord(word)) {
                return false;
            }
            scanner.next();
            return scanner.takeNumber(0, most);
        }

        private boolean readCrop() {
            if (county.cropCount >= MOST_CROPS) {
                return scanner.fail(Scanner.ONE_TOO_MANY);
            }
            scanner.next();
            if (!readNewName() || !readField()) {
                return false;
            }
            if (!scanner.takeWord("wants") || !scanner.takeNumber(1, MOST_GROWN)) {
                return false;
            }
            county.crops[county.cropCount].begin(name, column, row, scanner.value);
            county.cropCount++;
            return true;
        }

        private boolean readTenant() {
            if (county.tenantCount >= MOST_TENANTS) {
                return scanner.fail(Scanner.ONE_TOO_MANY);
            }
            scanner.next();
            if (!readNewName() || !readField() || !scanner.takeWord("of") || !scanner.isNameHere()) {
                return false;
            }
            int kite = county.kiteNamed(scanner.name);
            if (kite == NONE) {
                return scanner.fail(Scanner.WRONG_NAME);
            }
            scanner.next();
            county.tenants[county.tenantCount].begin(name, column, row, kite);
            county.tenantCount++;
            return true;
        }

        private boolean readNewName() {
            if (!scanner.isNameHere()) {
                return false;
            }
            if (county.hasName(scanner.name)) {
                return scanner.fail(Scanner.WRONG_NAME);
            }
            name = scanner.name;
            scanner.next();
            return true;
        }

        private boolean readField() {
            if (!scanner.takeWord("at") || !scanner.takeNumber(0, county.wide - 1)) {
                return false;
            }
            column = scanner.value;
            if (!scanner.takeNumber(0, county.deep - 1)) {
                return false;
            }
            row = scanner.value;
            return true;
        }
    }

    /** SEASONS: their STEPS and ends, one behind the other, as they stand in the TEXT. */
    private static final class Seasons {
        static final int HOURS = 1;
        static final int WALK = 2;
        static final int CUT = 3;
        static final int MEND = 4;
        static final int ANY = 5;
        static final int WHEN = 6;
        static final int LOOP = 7;
        static final int STOP = 8;
        static final int END = 9;

        static final int PURSE_BELOW = 1;
        static final int PURSE_ABOVE = 2;
        static final int PURSE_EQUAL = 3;
        static final int IS_RIPE = 4;
        static final int IS_UP = 5;

        /** Each of the 30 STEPS may have an end. */
        static final int MOST_LINES = 60;
        private static final int MOST_STEPS = 30;
        private static final int MOST_OPEN = 3;

        boolean there = false;
        int steps = 0;
        int lines = 0;
        final int[] kinds = new int[MOST_LINES];
        final int[] tests = new int[MOST_LINES];
        final int[] things = new int[MOST_LINES];
        final int[] numbers = new int[MOST_LINES];
        /** Of a when, a loop its end, of an end its beginning. */
        final int[] partners = new int[MOST_LINES];
        private final int[] open = new int[MOST_OPEN];
        private int depth = 0;

        void clear() {
            there = false;
            steps = 0;
            lines = 0;
            depth = 0;
        }

        void copy(Seasons other) {
            there = other.there;
            steps = other.steps;
            lines = other.lines;
            System.arraycopy(other.kinds, 0, kinds, 0, lines);
            System.arraycopy(other.tests, 0, tests, 0, lines);
            System.arraycopy(other.things, 0, things, 0, lines);
            System.arraycopy(other.numbers, 0, numbers, 0, lines);
            System.arraycopy(other.partners, 0, partners, 0, lines);
        }

        boolean readAll(Scanner scanner, County county) {
            clear();
            for (int i = 0; i < MOST_SEASON_BYTES && !scanner.isAtEnd(); i++) {
                boolean isRead = scanner.isWord("end") ? readEnd(scanner)
                        : readStepWord(scanner) && readRest(scanner, county);
                lines++;
                if (!isRead || !scanner.takeSign(';')) {
                    return false;
                }
            }
            if (depth > 0) {
                return scanner.fail(Scanner.UNFIT);
            }
            there = true;
            return true;
        }

        private boolean readEnd(Scanner scanner) {
            if (depth == 0 || lines >= MOST_LINES) {
                return scanner.fail(Scanner.UNFIT);
            }
            scanner.next();
            depth--;
            kinds[lines] = END;
            partners[lines] = open[depth];
            partners[open[depth]] = lines;
            return true;
        }

        private boolean readStepWord(Scanner scanner) {
            int kind = kindOf(scanner);
            if (kind == NONE) {
                return scanner.fail(Scanner.UNFIT);
            }
            if (steps >= MOST_STEPS || lines >= MOST_LINES) {
                return scanner.fail(Scanner.ONE_TOO_MANY);
            }
            if (kind == WHEN || kind == LOOP) {
                if (depth >= MOST_OPEN) {
                    return scanner.fail(Scanner.TOO_DEEP);
                }
                open[depth] = lines;
                depth++;
            }
            kinds[lines] = kind;
            steps++;
            scanner.next();
            return true;
        }

        private int kindOf(Scanner scanner) {
            if (scanner.isWord("hour")) {
                return HOURS;
            }
            if (scanner.isWord("walk")) {
                return WALK;
            }
            if (scanner.isWord("cut")) {
                return CUT;
            }
            if (scanner.isWord("mend")) {
                return MEND;
            }
            if (scanner.isWord("any")) {
                return ANY;
            }
            if (scanner.isWord("when")) {
                return WHEN;
            }
            if (scanner.isWord("loop")) {
                return LOOP;
            }
            return scanner.isWord("stop") ? STOP : NONE;
        }

        private boolean readRest(Scanner scanner, County county) {
            switch (kinds[lines]) {
                case HOURS: return readNumber(scanner, 1, 3);
                case WALK: return readKite(scanner, county) && readNumber(scanner, 1, 4);
                case CUT: return readKite(scanner, county);
                case MEND: return readKite(scanner, county);
                case ANY: return readKite(scanner, county);
                case WHEN: return readTest(scanner, county);
                case LOOP: return readNumber(scanner, 1, 99);
                default: return true;
            }
        }

        private boolean readTest(Scanner scanner, County county) {
            if (scanner.isWord("ripe")) {
                scanner.next();
                tests[lines] = IS_RIPE;
                return scanner.isNameHere() && readThing(scanner, county.cropNamed(scanner.name));
            }
            if (scanner.isWord("up")) {
                scanner.next();
                tests[lines] = IS_UP;
                return readKite(scanner, county);
            }
            if (!scanner.takeWord("purse") || !readKite(scanner, county)) {
                return false;
            }
            tests[lines] = scanner.isSignOf('<') ? PURSE_BELOW : scanner.isSignOf('>') ? PURSE_ABOVE : PURSE_EQUAL;
            if (tests[lines] == PURSE_EQUAL && !scanner.isSignOf('=')) {
                return scanner.fail(Scanner.UNFIT);
            }
            scanner.next();
            return readNumber(scanner, 0, MOST_PURSE);
        }

        private boolean readNumber(Scanner scanner, int least, int most) {
            if (!scanner.takeNumber(least, most)) {
                return false;
            }
            numbers[lines] = scanner.value;
            return true;
        }

        private boolean readKite(Scanner scanner, County county) {
            return scanner.isNameHere() && readThing(scanner, county.kiteNamed(scanner.name));
        }

        private boolean readThing(Scanner scanner, int thing) {
            if (thing == NONE) {
                return scanner.fail(Scanner.WRONG_NAME);
            }
            things[lines] = thing;
            scanner.next();
            return true;
        }
    }

    /** Lives SEASONS and keeps what became of them. */
    private static final class Life {
        private static final int MOST_STEPS = 300;
        private static final int WAYS = 4;
        /** Far above 300 STEPS with the ends of empty loops between them. */
        private static final int MOST_MOVES = 1000000;

        boolean there = false;
        int steps = 0;
        int missed = 0;
        int hours = 0;
        int walked = 0;
        int lost = 0;
        boolean isLeft = false;
        private int drawn = 0;
        private final int[] rounds = new int[Seasons.MOST_LINES];

        void run(Seasons program, County county, Sky sky, int seed) {
            there = true;
            steps = 0;
            missed = 0;
            hours = 0;
            walked = 0;
            lost = 0;
            isLeft = false;
            drawn = seed;
            int at = 0;
            for (int i = 0; i < MOST_MOVES && at < program.lines; i++) {
                if (program.kinds[at] == Seasons.END) {
                    at = behindEnd(program, at);
                } else if (steps >= MOST_STEPS) {
                    isLeft = true;
                    return;
                } else {
                    steps++;
                    at = behindStep(program, at, county, sky);
                }
            }
        }

        private int behindEnd(Seasons program, int at) {
            int beginning = program.partners[at];
            if (program.kinds[beginning] == Seasons.LOOP) {
                rounds[beginning]--;
                if (rounds[beginning] > 0) {
                    return beginning + 1;
                }
            }
            return at + 1;
        }

        private int behindStep(Seasons program, int at, County county, Sky sky) {
            int thing = program.things[at];
            int number = program.numbers[at];
            switch (program.kinds[at]) {
                case Seasons.HOURS:
                    if (county.hour + number > LAST_HOUR) {
                        missed++;
                    } else {
                        hours += number;
                        lost += Integer.bitCount(county.goBy(sky, number));
                    }
                    break;
                case Seasons.WALK: stepOrMiss(county, thing, number); break;
                case Seasons.CUT: putCut(county.kites[thing], true); break;
                case Seasons.MEND: putCut(county.kites[thing], false); break;
                case Seasons.ANY: stepOrMiss(county, thing, drawStep()); break;
                case Seasons.WHEN: return holds(program, at, county, sky) ? at + 1 : program.partners[at] + 1;
                case Seasons.LOOP: rounds[at] = number; break;
                default: return program.lines;
            }
            return at + 1;
        }

        private void stepOrMiss(County county, int kite, int step) {
            if (county.mayStep(kite, step)) {
                county.stepHand(kite, step);
                walked++;
            } else {
                missed++;
            }
        }

        private void putCut(Kite kite, boolean is) {
            if (kite.isCut == is) {
                missed++;
            }
            kite.isCut = is;
        }

        private boolean holds(Seasons program, int at, County county, Sky sky) {
            int thing = program.things[at];
            int number = program.numbers[at];
            switch (program.tests[at]) {
                case Seasons.PURSE_BELOW: return county.kites[thing].purse < number;
                case Seasons.PURSE_ABOVE: return county.kites[thing].purse > number;
                case Seasons.PURSE_EQUAL: return county.kites[thing].purse == number;
                case Seasons.IS_RIPE: return county.crops[thing].isRipe();
                default: sky.raise(county, county.hourOfDay(), county.cutSet()); return sky.isUp(thing);
            }
        }

        /** A draw by the four ways to WALK, of which 0, to stay, is none. */
        private int drawStep() {
            drawn = (drawn * 3001 + 11197) % 65536;
            return drawn / 8 % WAYS + 1;
        }
    }

    /** Looks for the best in a COUNTY that may be changed for that. */
    private static final class Plans {
        private final County county;
        private final Sky sky;
        int bestField = 0;
        int bestHours = 0;
        private final int[] fieldHours = new int[MOST_FIELDS];
        final int[] flown = new int[MOST_FLY];
        int flownSteps = 0;
        int flownHours = 0;
        private final int[] trial = new int[MOST_FLY];
        private int goalKite = 0;
        private int goalColumn = 0;
        private int goalRow = 0;
        int bestLead = 0;
        /** By turns that are left. */
        final int[] bestSteps = new int[MOST_TURNS + 1];
        int coveringSet = 0;
        private final int[] shaderSets = new int[MOST_COVERED];
        private final boolean[] settled = new boolean[1 << MOST_TENANTS];
        final int[][] strips = new int[MOST_KITES][MOST_WIDE];

        Plans(County county, Sky sky) {
            this.county = county;
            this.sky = sky;
        }

        void seekPlanting(int hours) {
            for (int i = 0; i < MOST_FIELDS; i++) {
                fieldHours[i] = 0;
            }
            for (int i = 0; i < hours; i++) {
                county.loseCrossed(sky);
                county.hour++;
                countOwnedFields();
            }
            bestHours = NONE;
            for (int row = 0; row < county.deep; row++) {
                for (int column = 0; column < county.wide; column++) {
                    if (fieldHours[row * MOST_WIDE + column] > bestHours) {
                        bestHours = fieldHours[row * MOST_WIDE + column];
                        bestField = row * 10 + column;
                    }
                }
            }
        }

        private void countOwnedFields() {
            for (int row = 0; row < county.deep; row++) {
                for (int column = 0; column < county.wide; column++) {
                    if (sky.ownerOf(column, row) != NONE) {
                        fieldHours[row * MOST_WIDE + column]++;
                    }
                }
            }
        }

        void seekFlight(int kite, int column, int row, int hours) {
            goalKite = kite;
            goalColumn = column;
            goalRow = row;
            flownSteps = hours;
            flownHours = NONE;
            tryFlight(0, 0);
        }

        private void tryFlight(int done, int owned) {
            // only what is better than all ahead of it is taken, so the first of several stays
            if (owned + flownSteps - done <= flownHours) {
                return;
            }
            if (done >= flownSteps || done >= MOST_FLY) {
                flownHours = owned;
                System.arraycopy(trial, 0, flown, 0, done);
                return;
            }
            Kite flier = county.kites[goalKite];
            int column = flier.column;
            int row = flier.row;
            int cuts = county.cutSet();
            for (int step = 0; step < STEPS; step++) {
                if (county.mayStep(goalKite, step)) {
                    trial[done] = step;
                    county.stepHand(goalKite, step);
                    county.loseCrossed(sky);
                    boolean owns = sky.ownerOf(goalColumn, goalRow) == goalKite;
                    county.hour++;
                    tryFlight(done + 1, owns ? owned + 1 : owned);
                    county.hour--;
                    county.putCutSet(cuts);
                    flier.column = column;
                    flier.row = row;
                }
            }
        }

        /** By the sky as it is looked at; whether the FIELDS can be covered. */
        boolean seekCover(long[] fields, int n) {
            for (int i = 0; i < n; i++) {
                int field = (int) fields[i];
                shaderSets[i] = sky.shadersOf(field % 10, field / 10);
            }
            coveringSet = NONE;
            int fewest = MOST_KITES + 1;
            for (int set = 0; set < 1 << MOST_KITES; set++) {
                if (Integer.bitCount(set) < fewest && isCovering(set, n)) {
                    fewest = Integer.bitCount(set);
                    coveringSet = set;
                }
            }
            return coveringSet != NONE;
        }

        private boolean isCovering(int set, int n) {
            for (int i = 0; i < n; i++) {
                if ((shaderSets[i] & set) == 0) {
                    return false;
                }
            }
            return true;
        }

        int mostSettled(int steps) {
            sky.look(county, county.hourOfDay());
            for (int i = 0; i < settled.length; i++) {
                settled[i] = i == 0;
            }
            for (int row = 0; row < county.deep; row++) {
                for (int column = 0; column < county.wide; column++) {
                    offerField(column, row, steps);
                }
            }
            int most = 0;
            for (int i = 0; i < settled.length; i++) {
                if (settled[i]) {
                    most = Math.max(most, Integer.bitCount(i));
                }
            }
            return most;
        }

        /** Each set of TENANTS that is settled may have one more by this FIELD; from the greatest set down, so that it is used once. */
        private void offerField(int column, int row, int steps) {
            int landlord = sky.ownerOf(column, row);
            if (landlord == NONE) {
                return;
            }
            int takers = 0;
            for (int i = 0; i < county.tenantCount; i++) {
                if (county.tenants[i].kite == landlord && county.tenants[i].stepsTo(column, row) <= steps) {
                    takers |= 1 << i;
                }
            }
            for (int set = settled.length - 1; set >= 0; set--) {
                for (int i = 0; settled[set] && i < county.tenantCount; i++) {
                    if ((takers & ~set & 1 << i) != 0) {
                        settled[set | 1 << i] = true;
                    }
                }
            }
        }

        /** The STRIPS of all KITES in a row. */
        void countStrips(int row) {
            for (int i = 0; i < MOST_KITES; i++) {
                for (int column = 0; column < MOST_WIDE; column++) {
                    strips[i][column] = 0;
                }
            }
            for (int hour = 0; hour < DAY; hour++) {
                sky.lookPastCuts(county, hour);
                for (int i = 0; i < county.kiteCount; i++) {
                    for (int column = 0; column < county.wide; column++) {
                        strips[i][column] += sky.shadersOf(column, row) >> i & 1;
                    }
                }
            }
        }

        int unlikeStrips(int row) {
            countStrips(row);
            int unlike = 0;
            for (int i = 0; i < county.kiteCount; i++) {
                boolean isNew = true;
                for (int j = 0; j < i; j++) {
                    if (areAlike(i, j)) {
                        isNew = false;
                    }
                }
                if (isNew) {
                    unlike++;
                }
            }
            return unlike;
        }

        private boolean areAlike(int a, int b) {
            for (int column = 0; column < county.wide; column++) {
                if (strips[a][column] != strips[b][column]) {
                    return false;
                }
            }
            return true;
        }

        boolean isStrip(int kite, long[] numbers) {
            for (int column = 0; column < county.wide; column++) {
                if (strips[kite][column] != numbers[column]) {
                    return false;
                }
            }
            return true;
        }

        void seekDuel(int first, int second, int turns) {
            bestLead = playOut(first, second, turns);
        }

        /** FIELDS of the mover less those of the other at the end, by best play of both. */
        private int playOut(int mover, int other, int turns) {
            if (turns <= 0 || turns > MOST_TURNS) {
                sky.look(county, county.hourOfDay());
                return sky.fieldsOf(mover) - sky.fieldsOf(other);
            }
            Kite one = county.kites[mover];
            int column = one.column;
            int row = one.row;
            int best = -MOST_FIELDS - 1;
            for (int step = 0; step < STEPS; step++) {
                if (county.mayStep(mover, step)) {
                    county.stepHand(mover, step);
                    int lead = -playOut(other, mover, turns - 1);
                    one.column = column;
                    one.row = row;
                    if (lead > best) {
                        best = lead;
                        bestSteps[turns] = step;
                    }
                }
            }
            return best;
        }
    }
}
