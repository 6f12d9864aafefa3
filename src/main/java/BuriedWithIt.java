import java.util.NoSuchElementException;

public final class BuriedWithIt {
    public static final int NONE = -1;

    private static final int NOT_SO = -2;
    private static final int MISSING = -3;
    private static final int MOST_FIELDS = 36;
    private static final int MOST_GOERS = 6;
    private static final int MOST_LOCKED = 8;
    private static final int MOST_WORN = 99;
    private static final int MOST_TIMES = 999;
    private static final int MOST_HARD = 99;
    private static final int MOST_AHEAD = 99;
    private static final int MOST_SIGNS = 80;
    private static final int YEAR_SIGNS = 60;
    private static final int MOST_PRINTS = 12;
    private static final int MOST_GATES = 40;
    private static final int LAW_FAULT = -10000;
    /** More than any PATH is HARD, and far from where ints wrap. */
    private static final int NEVER = 1 << 30;

    private final char[] signs = new char[MOST_SIGNS];
    private int signCount = 0;
    private final Ground ground = new Ground();
    private final State now = new State(ground);
    private final State trial = new State(ground);
    private final State before = new State(ground);
    private final Past past = new Past(ground);
    private final Band band = new Band(ground);
    private final Lines lines = new Lines();
    private final Parting parting = new Parting(ground);
    private final Told told = new Told();
    private final int[] nimbers = new int[MOST_GATES + 1];
    private Rule rule = new Rule();
    private Rule spare = new Rule();
    private int use = 20;
    private long goneOver = 0;
    private long notGoneOver = 0;
    private int prints = 0;
    private int drawn = 0;

    public BuriedWithIt() {
        rule.readPlain();
    }

    // ---- land, goers

    public int sign(int v) {
        if (signCount + 4 > signs.length) {
            return NONE;
        }
        for (int shift = 24; shift >= 0; shift -= 8) {
            signs[signCount] = (char) ((v >>> shift) & 255);
            signCount++;
        }
        return signCount;
    }

    public boolean end(int n) {
        if (n < 0 || n > signCount) {
            return false;
        }
        signCount = n;
        return true;
    }

    public int land() {
        int length = emptyText();
        int fault = landFault(length);
        if (fault >= 0) {
            return -1 - fault;
        }
        ground.measure(signs[0] - '0', signs[1] - '0');
        now.clear();
        for (int f = 0; f < ground.size; f++) {
            now.kind[f] = kindOf(signs[f + 2]);
        }
        past.forgetAll();
        wipePrints();
        return ground.size;
    }

    public int goers() {
        int length = emptyText();
        if (length == 0) {
            return 0;
        }
        int fault = lines.read(signs, length, ground, MOST_GOERS - now.goers);
        if (fault >= 0) {
            return -1 - fault;
        }
        now.welcome(lines);
        past.forgetAll();
        return lines.size;
    }

    public int rule() {
        int fault = readSpareRule();
        if (fault >= 0) {
            return -1 - fault;
        }
        Rule old = rule;
        rule = spare;
        spare = old;
        return 0;
    }

    public int field(int field, int what) throws NoSuchElementException {
        if (!ground.has(field) || what < 0 || what > 3) {
            throw new NoSuchElementException();
        }
        switch (what) {
            case 0:
                return now.kind[field];
            case 1:
                return now.worn[field];
            case 2:
                return now.isLocked(field) ? 1 : 0;
            default:
                band.seekAll(now, rule);
                return band.over(now, field);
        }
    }

    public int goer(int goer, int what) throws NoSuchElementException {
        if (!now.has(goer) || what < 0 || what > 5) {
            throw new NoSuchElementException();
        }
        switch (what) {
            case 0:
                return now.from[goer];
            case 1:
                return now.goal[goer];
            case 2:
                return now.rights[goer];
            case 3:
                return now.came[goer];
            case 4:
                return now.missed[goer];
            default:
                return pathOf(now, goer).isThere() ? 1 : 0;
        }
    }

    public int hard(int goer, int field) {
        if (!now.has(goer) || !ground.has(field)) {
            return NONE;
        }
        return rule.hardness(now, goer, field, now.isLocked(field));
    }

    public int use(int v) {
        if (v < 1 || v > 99) {
            return NONE;
        }
        int was = use;
        use = v;
        return was;
    }

    public int sheet(int kind, int n, int f, int step) {
        if (kind < 0 || kind > 3 || n > MOST_FIELDS) {
            return NONE;
        }
        if (kind < 3 && n < 0) {
            return NOT_SO;
        }
        int entry = f;
        for (int at = 0; at < ground.size; at++) {
            now.worn[at] = kind < 3 && at < n ? entryTold(kind, entry) : 0;
            entry += step;
        }
        return kind == 3 ? MISSING : now.wornInAll();
    }

    // ---- nights

    public int nights(int n) {
        if (n < 0 || n > 60) {
            return NONE;
        }
        before.take(now);
        int came = passNights(n);
        if (n > 0) {
            past.push(before);
        }
        told.begin();
        told.add(band.missed);
        told.add(band.opened);
        return came;
    }

    public int lock(int field) {
        before.take(now);
        return remembered(now.turnLock(field));
    }

    public int build(int field, int kind) {
        before.take(now);
        return remembered(now.makeKind(field, kind));
    }

    public int grant(int goer, int kind) {
        before.take(now);
        return remembered(now.turnRight(goer, kind));
    }

    public int divert(int goer, int field) {
        before.take(now);
        return remembered(now.moveGoal(goer, field));
    }

    public int year() {
        int length = emptyText();
        int fault = yearFault(length);
        if (fault >= 0) {
            return -1 - fault;
        }
        before.take(now);
        int done = 0;
        int failed = 0;
        int p = 0;
        while (p < length && failed == 0) {
            if (actAt(p) < 0) {
                failed = 1;
            } else {
                done++;
                p += 1 + digitsOfAct(signs[p]);
            }
        }
        if (done > 0) {
            past.push(before);
        }
        told.begin();
        told.add(failed);
        told.add(now.night);
        return done;
    }

    public int undo() {
        return past.pop(now);
    }

    // ---- paths

    public int path(int goer) {
        if (!now.has(goer)) {
            return NONE;
        }
        Path way = pathOf(now, goer);
        if (!way.isThere()) {
            return NOT_SO;
        }
        told.begin();
        for (int step = 0; step < way.length; step++) {
            told.add(way.at(step));
        }
        return way.hardness;
    }

    public int blocked() {
        band.seekAll(now, rule);
        int without = 0;
        int all = 0;
        for (int g = 0; g < now.goers; g++) {
            if (band.paths[g].isThere()) {
                all += band.paths[g].hardness;
            } else {
                without |= 1 << g;
            }
        }
        told.begin();
        told.add(Integer.bitCount(without));
        told.add(all);
        return without;
    }

    public int detour(int goer, int field) {
        if (!now.has(goer) || !ground.has(field)) {
            return NONE;
        }
        Path way = pathOf(now, goer);
        if (!way.isThere()) {
            return NOT_SO;
        }
        int hardNow = way.hardness;
        trial.take(now);
        trial.locked |= 1L << field;
        way = pathOf(trial, goer);
        return way.isThere() ? way.hardness - hardNow : NOT_SO;
    }

    public long vital(int goer) {
        if (!now.has(goer)) {
            return NONE;
        }
        band.survey(now, rule);
        if (!band.comes(now, goer, now.locked)) {
            return NOT_SO;
        }
        long without = 0;
        for (int f = 0; f < ground.size; f++) {
            if (!band.comes(now, goer, now.locked | (1L << f))) {
                without |= 1L << f;
            }
        }
        told.begin();
        told.add(Long.bitCount(without));
        return without;
    }

    public int cut(int goer) {
        if (!now.has(goer)) {
            return NONE;
        }
        int from = now.from[goer];
        int goal = now.goal[goer];
        long can = band.goable(now, rule, goer);
        if (!hasBit(ground.flood(can, from), goal)) {
            return 0;
        }
        if (from == goal || ground.areBeside(from, goal)) {
            return NOT_SO;
        }
        return parting.fewest(can, from, goal);
    }

    public int frees() {
        band.survey(now, rule);
        long locked = now.locked;
        int fewest = MOST_LOCKED + 1;
        long best = 0;
        long open = 0;
        for (int i = 0; i < 1 << MOST_LOCKED; i++) {
            int opened = Long.bitCount(open);
            if (opened < fewest && band.allCome(now, locked & ~open)) {
                fewest = opened;
                best = open;
            }
            // The next set within the LOCKED ones, in growing order of its bits.
            open = (open - locked) & locked;
            if (open == 0) {
                break;
            }
        }
        if (fewest > MOST_LOCKED) {
            return NOT_SO;
        }
        told.begin();
        told.add(best);
        return fewest;
    }

    public int busiest() {
        band.seekAll(now, rule);
        int best = 0;
        int most = NONE;
        for (int f = 0; f < ground.size; f++) {
            int paths = Integer.bitCount(band.over(now, f));
            if (paths > most) {
                most = paths;
                best = f;
            }
        }
        told.begin();
        told.add(most);
        return best;
    }

    public int meets(int one, int other) {
        if (!now.has(one) || !now.has(other) || one == other) {
            return NONE;
        }
        Path first = pathOf(now, one);
        Path second = pathOf(now, other);
        int step = first.meeting(second);
        if (step < 0) {
            return NOT_SO;
        }
        told.begin();
        told.add(first.at(step));
        told.add(Long.bitCount(first.bits & second.bits));
        return step;
    }

    public long reach(int goer) {
        if (!now.has(goer)) {
            return NONE;
        }
        long reached = ground.flood(band.goable(now, rule, goer), now.from[goer]);
        int most = 0;
        for (int f = 0; f < ground.size; f++) {
            if (hasBit(reached, f)) {
                most = Math.max(most, rule.hardness(now, goer, f, now.isLocked(f)));
            }
        }
        told.begin();
        told.add(Long.bitCount(reached));
        told.add(most);
        return reached;
    }

    public int better(int goer) {
        if (!now.has(goer)) {
            return NONE;
        }
        Path way = pathOf(now, goer);
        int least = way.isThere() ? way.hardness : NEVER;
        int best = NOT_SO;
        trial.take(now);
        for (int kind = 1; kind <= 3; kind++) {
            trial.rights[goer] = now.rights[goer] | (1 << kind);
            way = pathOf(trial, goer);
            if (way.isThere() && way.hardness < least) {
                least = way.hardness;
                best = kind;
            }
        }
        if (best > 0) {
            told.begin();
            told.add(least);
        }
        return best;
    }

    public int gate() {
        band.survey(now, rule);
        long ruledOut = now.locked | now.ends();
        int best = NOT_SO;
        int bestWithout = 0;
        for (int f = 0; f < ground.size; f++) {
            if (!hasBit(ruledOut, f)) {
                int without = band.blockedBy(now, now.locked | (1L << f));
                if (best < 0 || Integer.bitCount(without) > Integer.bitCount(bestWithout)) {
                    best = f;
                    bestWithout = without;
                }
            }
        }
        if (best >= 0) {
            told.begin();
            told.add(bestWithout);
        }
        return best;
    }

    // ---- use

    public int claims(int field) {
        if (!ground.has(field)) {
            return NONE;
        }
        trial.take(now);
        for (int night = 0; night <= MOST_AHEAD; night++) {
            if (trial.kind[field] == 0) {
                told.begin();
                told.add(trial.worn[field]);
                return night;
            }
            band.pass(trial, rule, use);
        }
        return NOT_SO;
    }

    public int later(int n) {
        if (n < 0 || n > MOST_AHEAD) {
            return NONE;
        }
        tryNights(n);
        band.seekAll(trial, rule);
        told.begin();
        told.add(trial.wornInAll());
        told.add(trial.ofKind(0));
        return band.walking(trial);
    }

    public int alters(int goer) {
        if (!now.has(goer)) {
            return NONE;
        }
        boolean had = pathOf(now, goer).isThere();
        trial.take(now);
        for (int night = 1; night <= MOST_AHEAD; night++) {
            band.pass(trial, rule, use);
            Path way = pathOf(trial, goer);
            if (way.isThere() != had) {
                told.begin();
                told.add(way.hardness);
                return night;
            }
        }
        return NOT_SO;
    }

    public int deepest(int n) {
        if (n < 0 || n > MOST_AHEAD) {
            return NONE;
        }
        tryNights(n);
        int best = 0;
        for (int f = 1; f < ground.size; f++) {
            if (trial.worn[f] > trial.worn[best]) {
                best = f;
            }
        }
        told.begin();
        told.add(trial.worn[best]);
        return best;
    }

    // ---- prints

    public int print(int field, int is) {
        if (!ground.has(field) || is < 0 || is > 1 || prints >= MOST_PRINTS) {
            return NONE;
        }
        if (is == 1) {
            goneOver |= 1L << field;
        } else {
            notGoneOver |= 1L << field;
        }
        prints++;
        return prints;
    }

    public int forget() {
        int were = prints;
        wipePrints();
        return were;
    }

    public int fits() {
        int fitting = fittingGoers();
        told.begin();
        told.add(Integer.bitCount(fitting));
        return fitting;
    }

    public int look() {
        int fitting = fittingGoers();
        if (fitting == 0) {
            return NOT_SO;
        }
        int best = 0;
        int fewest = MOST_GOERS + 1;
        for (int f = 0; f < ground.size; f++) {
            int over = Integer.bitCount(fitting & band.over(now, f));
            int left = Math.max(over, Integer.bitCount(fitting) - over);
            if (left < fewest) {
                fewest = left;
                best = f;
            }
        }
        told.begin();
        told.add(fewest);
        return best;
    }

    // ---- gates by turns, chances

    public int gates(int n) {
        if (n < 0 || n > MOST_GATES) {
            return NONE;
        }
        fillNimbers(n);
        told.begin();
        for (int at = 0; at < n; at++) {
            for (int many = 1; many <= 2 && at + many <= n; many++) {
                if (nimbers[at] == nimbers[n - at - many]) {
                    told.add(at);
                    told.add(many);
                    return 1;
                }
            }
        }
        return 0;
    }

    public int goes(int field, int k, int p) {
        if (!ground.has(field) || k < 0 || k > 6 || p < 0 || p > 10) {
            return NONE;
        }
        band.seekAll(now, rule);
        int all = Integer.bitCount(band.over(now, field));
        long upper = 0;
        for (int go = k; go <= all; go++) {
            upper += ways(all, go) * power(p, go) * power(10 - p, all - go);
        }
        tellFraction(upper, power(10, all));
        return 0;
    }

    public int crowd() {
        band.seekAll(now, rule);
        int pairs = 0;
        int meeting = 0;
        for (int one = 0; one < now.goers; one++) {
            for (int other = one + 1; other < now.goers; other++) {
                if (band.paths[one].isThere() && band.paths[other].isThere()) {
                    pairs++;
                    meeting += band.paths[one].meeting(band.paths[other]) >= 0 ? 1 : 0;
                }
            }
        }
        if (pairs == 0) {
            return NOT_SO;
        }
        tellFraction(meeting, pairs);
        return 0;
    }

    // ---- rests, rules, years

    public int rests(int v) {
        if (v < 0 || v > 20) {
            return NONE;
        }
        told.begin();
        int resting = 0;
        for (int x = 0; x <= 9; x++) {
            for (int y = 0; y <= 9; y++) {
                if (isAtRest(v, x, y)) {
                    if (resting == 0) {
                        told.add(x);
                        told.add(y);
                    }
                    resting++;
                }
            }
        }
        return resting;
    }

    public int law() {
        int fault = readSpareRule();
        if (fault >= 0) {
            return LAW_FAULT - fault;
        }
        band.seekAll(now, spare);
        int byOther = band.walking(now);
        band.seekAll(now, rule);
        int byThis = band.walking(now);
        told.begin();
        told.add(byOther);
        told.add(byThis);
        return byOther - byThis;
    }

    public int years(int seed, int n) {
        if (n < 1 || n > 40) {
            return NONE;
        }
        trial.take(now);
        band.restart();
        drawn = seed;
        for (int i = 0; i < n; i++) {
            tryDrawnAct();
        }
        told.begin();
        told.add(band.missed);
        told.add(Long.bitCount(trial.locked));
        return band.came;
    }

    // ---- kept

    public boolean keep(int i) {
        return past.store(i, now);
    }

    public boolean again(int i) {
        return past.fetch(i, now);
    }

    public int count(int what) {
        switch (what) {
            case 0:
                return ground.rows;
            case 1:
                return ground.columns;
            case 2:
                return now.goers;
            case 3:
                return use;
            case 4:
                return now.night;
            case 5:
                return Long.bitCount(now.locked);
            case 6:
            case 7:
            case 8:
            case 9:
                return Long.bitCount(now.ofKind(what - 6));
            case 10:
                return now.wornInAll();
            case 11:
                return prints;
            case 12:
                return past.size;
            case 13:
                return told.size;
            case 14:
                return signCount;
            default:
                return NONE;
        }
    }

    public long row(int i) throws NoSuchElementException {
        if (i < 0 || i >= told.size) {
            throw new NoSuchElementException();
        }
        return told.numbers[i];
    }

    // ---- texts

    private int emptyText() {
        int length = signCount;
        signCount = 0;
        return length;
    }

    private static boolean isDigit(char sign) {
        return sign >= '0' && sign <= '9';
    }

    private static int kindOf(char sign) {
        switch (sign) {
            case '.':
                return 0;
            case 'h':
                return 1;
            case 'b':
                return 2;
            case 'w':
                return 3;
            default:
                return NONE;
        }
    }

    private int landFault(int length) {
        int size = 1;
        for (int p = 0; p < 2; p++) {
            if (p >= length || signs[p] < '1' || signs[p] > '6') {
                return p;
            }
            size *= signs[p] - '0';
        }
        for (int p = 2; p < size + 2; p++) {
            if (p >= length || kindOf(signs[p]) < 0) {
                return p;
            }
        }
        return length > size + 2 ? size + 2 : NONE;
    }

    private int readSpareRule() {
        int length = emptyText();
        if (length == 0) {
            spare.readPlain();
            return NONE;
        }
        return spare.read(signs, length);
    }

    private static int digitsOfAct(char act) {
        switch (act) {
            case 'n':
                return 1;
            case 'l':
            case 'g':
                return 2;
            case 'b':
            case 'd':
                return 3;
            default:
                return 0;
        }
    }

    private static boolean digitFits(char act, int place, char sign) {
        if (act == 'b' && place == 3) {
            return sign >= '0' && sign <= '3';
        }
        if (act == 'g' && place == 2) {
            return sign >= '1' && sign <= '3';
        }
        return isDigit(sign);
    }

    private int yearFault(int length) {
        int last = Math.min(length, YEAR_SIGNS);
        int p = 0;
        while (p < last) {
            char act = signs[p];
            int digits = digitsOfAct(act);
            if (digits == 0) {
                return p;
            }
            for (int place = 1; place <= digits; place++) {
                if (p + place >= last || !digitFits(act, place, signs[p + place])) {
                    return p + place;
                }
            }
            p += 1 + digits;
        }
        return length > last ? last : NONE;
    }

    private int digitAt(int p) {
        return p >= 0 && p < signs.length ? signs[p] - '0' : NONE;
    }

    private int fieldAt(int p) {
        return ground.fieldOf(digitAt(p), digitAt(p + 1));
    }

    private int actAt(int p) {
        switch (signs[p]) {
            case 'n':
                return passNights(digitAt(p + 1));
            case 'l':
                return now.turnLock(fieldAt(p + 1));
            case 'b':
                return now.makeKind(fieldAt(p + 1), digitAt(p + 3));
            case 'g':
                return now.turnRight(digitAt(p + 1), digitAt(p + 2));
            case 'd':
                return now.moveGoal(digitAt(p + 1), fieldAt(p + 2));
            default:
                return NONE;
        }
    }

    private static int entryTold(int kind, int entry) {
        int value = entry;
        if (kind == 0) {
            value = (byte) entry;
        } else if (kind == 1) {
            value = (short) entry;
        }
        return Math.max(0, Math.min(MOST_WORN, value));
    }

    // ---- helpers of several calls

    private static boolean hasBit(long bits, int place) {
        return ((bits >>> place) & 1) != 0;
    }

    private int remembered(int answer) {
        if (answer >= 0) {
            past.push(before);
        }
        return answer;
    }

    private int passNights(int n) {
        band.restart();
        for (int i = 0; i < n; i++) {
            band.pass(now, rule, use);
        }
        return band.came;
    }

    private void tryNights(int n) {
        trial.take(now);
        for (int i = 0; i < n; i++) {
            band.pass(trial, rule, use);
        }
    }

    private Path pathOf(State state, int goer) {
        Path way = band.paths[goer];
        band.walker.seek(state, rule, goer, way);
        return way;
    }

    private void wipePrints() {
        goneOver = 0;
        notGoneOver = 0;
        prints = 0;
    }

    private int fittingGoers() {
        band.seekAll(now, rule);
        int fitting = 0;
        for (int g = 0; g < now.goers; g++) {
            Path way = band.paths[g];
            boolean allGone = (way.bits & goneOver) == goneOver;
            if (way.isThere() && allGone && (way.bits & notGoneOver) == 0) {
                fitting |= 1 << g;
            }
        }
        return fitting;
    }

    private void fillNimbers(int n) {
        for (int gates = 1; gates <= n && gates < nimbers.length; gates++) {
            long seen = 0;
            for (int many = 1; many <= 2; many++) {
                for (int at = 0; at + many <= gates; at++) {
                    seen |= 1L << (nimbers[at] ^ nimbers[gates - many - at]);
                }
            }
            int least = 0;
            while (least < 63 && hasBit(seen, least)) {
                least++;
            }
            nimbers[gates] = least;
        }
    }

    private static long ways(int all, int some) {
        long many = 1;
        for (int i = 1; i <= some; i++) {
            many = many * (all - some + i) / i;
        }
        return many;
    }

    private static long power(long base, int times) {
        long product = 1;
        for (int i = 0; i < times; i++) {
            product *= base;
        }
        return product;
    }

    private void tellFraction(long upper, long lower) {
        long divisor = lower;
        long rest = upper;
        // Euclid's rests halve every second time: no two longs need more than this.
        for (int i = 0; i < 128 && rest != 0; i++) {
            long next = divisor % rest;
            divisor = rest;
            rest = next;
        }
        told.begin();
        if (divisor != 0) {
            told.add(upper / divisor);
            told.add(lower / divisor);
        }
    }

    private static int councilHas(int x, int y) {
        return y >= x ? (x + y) / 2 : 0;
    }

    private static int goerHas(int v, int x, int y) {
        return y >= x ? v - (x + y) / 2 : 0;
    }

    private static boolean isAtRest(int v, int x, int y) {
        for (int z = 0; z <= 9; z++) {
            if (councilHas(z, y) > councilHas(x, y) || goerHas(v, x, z) > goerHas(v, x, y)) {
                return false;
            }
        }
        return true;
    }

    private int drawOf(int n) {
        drawn = drawn * 1103515245 + 12345;
        return n > 0 ? (drawn >>> 16) % n : 0;
    }

    private void tryDrawnAct() {
        int what = drawOf(4);
        if (what < 2) {
            band.pass(trial, rule, use);
        } else if (what == 2) {
            trial.turnLock(drawOf(ground.size));
        } else if (trial.goers > 0) {
            int goer = drawOf(trial.goers);
            trial.turnRight(goer, drawOf(3) + 1);
        }
    }

    /** Where FIELDS lie. Only land() changes it, so that what undo() brings back need not hold it. */
    private static final class Ground {
        private int rows = 1;
        private int columns = 1;
        private int size = 1;
        private long notFirstColumn = 0;
        private long notLastColumn = 0;
        /** Four for each FIELD in growing order (NONE at an edge), so that the first that serves gives the least row. */
        private final int[] beside = new int[4 * MOST_FIELDS];

        private Ground() {
            measure(1, 1);
        }

        private void measure(int newRows, int newColumns) {
            if (newRows < 1 || newRows > 6 || newColumns < 1 || newColumns > 6) {
                return;
            }
            rows = newRows;
            columns = newColumns;
            size = rows * columns;
            notFirstColumn = 0;
            notLastColumn = 0;
            for (int f = 0; f < size; f++) {
                boolean first = f % columns == 0;
                boolean last = f % columns == columns - 1;
                notFirstColumn |= first ? 0 : 1L << f;
                notLastColumn |= last ? 0 : 1L << f;
                beside[4 * f] = f >= columns ? f - columns : NONE;
                beside[4 * f + 1] = first ? NONE : f - 1;
                beside[4 * f + 2] = last ? NONE : f + 1;
                beside[4 * f + 3] = f + columns < size ? f + columns : NONE;
            }
        }

        private boolean has(int field) {
            return field >= 0 && field < size;
        }

        private int fieldOf(int row, int column) {
            if (row < 0 || row >= rows || column < 0 || column >= columns) {
                return NONE;
            }
            return row * columns + column;
        }

        private boolean areBeside(int one, int other) {
            for (int d = 0; d < 4; d++) {
                if (beside[4 * one + d] == other) {
                    return true;
                }
            }
            return false;
        }

        private long flood(long can, int from) {
            long reached = can & (1L << from);
            for (int i = 0; i < size; i++) {
                long sideways = ((reached & notLastColumn) << 1) | ((reached & notFirstColumn) >>> 1);
                long wider = (reached | sideways | (reached << columns) | (reached >>> columns)) & can;
                if (wider == reached) {
                    break;
                }
                reached = wider;
            }
            return reached;
        }
    }

    /** What undo() brings back and keep() keeps. */
    private static final class State {
        private final Ground ground;
        private final int[] kind = new int[MOST_FIELDS];
        private final int[] worn = new int[MOST_FIELDS];
        private long locked = 0;
        private int night = 0;
        private int goers = 0;
        private final int[] from = new int[MOST_GOERS];
        private final int[] goal = new int[MOST_GOERS];
        private final int[] rights = new int[MOST_GOERS];
        private final int[] came = new int[MOST_GOERS];
        private final int[] missed = new int[MOST_GOERS];

        private State(Ground ground) {
            this.ground = ground;
        }

        private void take(State other) {
            System.arraycopy(other.kind, 0, kind, 0, MOST_FIELDS);
            System.arraycopy(other.worn, 0, worn, 0, MOST_FIELDS);
            System.arraycopy(other.from, 0, from, 0, MOST_GOERS);
            System.arraycopy(other.goal, 0, goal, 0, MOST_GOERS);
            System.arraycopy(other.rights, 0, rights, 0, MOST_GOERS);
            System.arraycopy(other.came, 0, came, 0, MOST_GOERS);
            System.arraycopy(other.missed, 0, missed, 0, MOST_GOERS);
            locked = other.locked;
            night = other.night;
            goers = other.goers;
        }

        private void clear() {
            for (int f = 0; f < MOST_FIELDS; f++) {
                kind[f] = 0;
                worn[f] = 0;
            }
            locked = 0;
            night = 0;
            goers = 0;
        }

        private void welcome(Lines lines) {
            for (int i = 0; i < lines.size && goers < MOST_GOERS; i++) {
                from[goers] = lines.from[i];
                goal[goers] = lines.goal[i];
                rights[goers] = lines.rights[i];
                came[goers] = 0;
                missed[goers] = 0;
                goers++;
            }
        }

        private boolean has(int goer) {
            return goer >= 0 && goer < goers;
        }

        private boolean isLocked(int field) {
            return hasBit(locked, field);
        }

        private int turnLock(int field) {
            if (!ground.has(field)) {
                return NONE;
            }
            if (!isLocked(field) && Long.bitCount(locked) >= MOST_LOCKED) {
                return NOT_SO;
            }
            locked ^= 1L << field;
            return Long.bitCount(locked);
        }

        private int makeKind(int field, int newKind) {
            if (!ground.has(field) || newKind < 0 || newKind > 3) {
                return NONE;
            }
            int was = kind[field];
            kind[field] = newKind;
            worn[field] = 0;
            return was;
        }

        private int turnRight(int goer, int ofKind) {
            if (!has(goer) || ofKind < 1 || ofKind > 3) {
                return NONE;
            }
            rights[goer] ^= 1 << ofKind;
            return rights[goer];
        }

        private int moveGoal(int goer, int field) {
            if (!has(goer) || !ground.has(field)) {
                return NONE;
            }
            int was = goal[goer];
            if (was == field) {
                return NOT_SO;
            }
            goal[goer] = field;
            return was;
        }

        private int wornInAll() {
            int all = 0;
            for (int f = 0; f < ground.size; f++) {
                all += worn[f];
            }
            return all;
        }

        private long ofKind(int wanted) {
            long bits = 0;
            for (int f = 0; f < ground.size; f++) {
                bits |= kind[f] == wanted ? 1L << f : 0;
            }
            return bits;
        }

        private long ends() {
            long bits = 0;
            for (int g = 0; g < goers; g++) {
                bits |= (1L << from[g]) | (1L << goal[g]);
            }
            return bits;
        }
    }

    /** What can be undone, the latest twelve in a ring, and what is kept under a number. */
    private static final class Past {
        private static final int MOST_UNDONE = 12;
        private static final int MOST_KEPT = 2;

        private final State[] undone = new State[MOST_UNDONE];
        private final State[] kept = new State[MOST_KEPT];
        private final boolean[] isKept = new boolean[MOST_KEPT];
        private int next = 0;
        private int size = 0;

        private Past(Ground ground) {
            for (int i = 0; i < MOST_UNDONE; i++) {
                undone[i] = new State(ground);
            }
            for (int i = 0; i < MOST_KEPT; i++) {
                kept[i] = new State(ground);
            }
        }

        private void forgetAll() {
            size = 0;
            for (int i = 0; i < MOST_KEPT; i++) {
                isKept[i] = false;
            }
        }

        private void push(State state) {
            undone[next].take(state);
            next = (next + 1) % MOST_UNDONE;
            size = Math.min(size + 1, MOST_UNDONE);
        }

        private int pop(State into) {
            if (size == 0) {
                return NONE;
            }
            next = (next + MOST_UNDONE - 1) % MOST_UNDONE;
            into.take(undone[next]);
            size--;
            return size;
        }

        private boolean store(int i, State state) {
            if (i < 0 || i >= MOST_KEPT) {
                return false;
            }
            kept[i].take(state);
            isKept[i] = true;
            return true;
        }

        private boolean fetch(int i, State into) {
            if (i < 0 || i >= MOST_KEPT || !isKept[i]) {
                return false;
            }
            into.take(kept[i]);
            size = 0;
            return true;
        }
    }

    /** LINES of GOERS as read, so that nothing comes of a text of which one LINE can't. */
    private static final class Lines {
        private static final int LONGEST = 47;

        private int size = 0;
        private final int[] from = new int[MOST_GOERS];
        private final int[] goal = new int[MOST_GOERS];
        private final int[] rights = new int[MOST_GOERS];

        private int read(char[] signs, int length, Ground ground, int room) {
            int last = Math.min(length, LONGEST);
            size = 0;
            int p = 0;
            for (int i = 0; i < room && i < MOST_GOERS; i++) {
                for (int place = 0; place < 4; place++) {
                    if (p + place >= last || !placeFits(signs[p + place], place, ground)) {
                        return p + place;
                    }
                }
                from[i] = ground.fieldOf(signs[p] - '0', signs[p + 1] - '0');
                goal[i] = ground.fieldOf(signs[p + 2] - '0', signs[p + 3] - '0');
                p = readRights(signs, p + 4, last, i);
                size = i + 1;
                if (p >= last) {
                    return length > last ? last : NONE;
                }
                if (signs[p] != ';') {
                    return p;
                }
                p++;
            }
            return p;
        }

        private static boolean placeFits(char sign, int place, Ground ground) {
            int many = (place & 1) == 0 ? ground.rows : ground.columns;
            return sign >= '0' && sign - '0' < many;
        }

        private int readRights(char[] signs, int start, int last, int i) {
            rights[i] = 1;
            int p = start;
            for (int kind = 1; kind <= 3; kind++) {
                if (p < last && kindOf(signs[p]) == kind) {
                    rights[i] |= 1 << kind;
                    p++;
                }
            }
            return p;
        }
    }

    /** THE RULE, its operators behind their things: numbers as they are, other signs below 0. */
    private static final class Rule {
        private static final int LONGEST = 40;
        private static final int MOST_OPEN = 4;
        private static final char NEGATED = '~';
        private static final char[] PLAIN = {'r', '*', '(', '1', '-', 'o', ')', '*', '(', '1', '+', 'k', ')'};

        private final int[] code = new int[LONGEST];
        private int codes = 0;
        private final int[] values = new int[LONGEST];
        private final char[] waiting = new char[LONGEST];
        private int waits = 0;
        private final boolean[] compared = new boolean[MOST_OPEN + 1];
        private int open = 0;
        private int digits = 0;
        private boolean wantsThing = true;

        private void readPlain() {
            read(PLAIN, PLAIN.length);
        }

        private int read(char[] signs, int length) {
            int last = Math.min(length, LONGEST);
            codes = 0;
            waits = 0;
            open = 0;
            compared[0] = false;
            digits = 0;
            wantsThing = true;
            for (int p = 0; p < last; p++) {
                boolean taken = wantsThing ? takeThing(signs[p]) : takeBehindThing(signs[p]);
                if (!taken) {
                    return p;
                }
            }
            if (length > last || wantsThing || open > 0) {
                return last;
            }
            release(1);
            return NONE;
        }

        private boolean takeThing(char sign) {
            if (sign == '-') {
                hold(NEGATED);
                return true;
            }
            if (sign == '(') {
                if (open >= MOST_OPEN) {
                    return false;
                }
                open++;
                compared[open] = false;
                hold(sign);
                return true;
            }
            if (isDigit(sign)) {
                emit(sign - '0');
                digits = 1;
            } else if (isLetter(sign)) {
                emit(-sign);
                digits = 0;
            } else {
                return false;
            }
            wantsThing = false;
            return true;
        }

        private boolean takeBehindThing(char sign) {
            if (isDigit(sign)) {
                return takeNextDigit(sign);
            }
            digits = 0;
            if (sign == ')') {
                if (open == 0) {
                    return false;
                }
                release(1);
                waits = Math.max(0, waits - 1);
                open--;
                return true;
            }
            int binding = bindingOf(sign);
            if (binding == 0 || (binding == 1 && compared[open])) {
                return false;
            }
            compared[open] |= binding == 1;
            release(binding);
            hold(sign);
            wantsThing = true;
            return true;
        }

        private boolean takeNextDigit(char sign) {
            if (digits == 0 || digits == 3 || codes == 0) {
                return false;
            }
            code[codes - 1] = code[codes - 1] * 10 + sign - '0';
            digits++;
            return true;
        }

        private static boolean isLetter(char sign) {
            return sign == 'k' || sign == 'r' || sign == 'o' || sign == 'w' || sign == 'n' || sign == 'i';
        }

        private static int bindingOf(char sign) {
            switch (sign) {
                case '<':
                case '>':
                case '=':
                    return 1;
                case '+':
                case '-':
                    return 2;
                case '*':
                case '/':
                    return 3;
                default:
                    return 0;
            }
        }

        private void hold(char sign) {
            if (waits < waiting.length) {
                waiting[waits] = sign;
                waits++;
            }
        }

        private void emit(int one) {
            if (codes < code.length) {
                code[codes] = one;
                codes++;
            }
        }

        private void release(int binding) {
            while (waits > 0) {
                char sign = waiting[waits - 1];
                if (sign != NEGATED && bindingOf(sign) < binding) {
                    return;
                }
                emit(-sign);
                waits--;
            }
        }

        /** How HARD a FIELD is for a GOER, were it LOCKED or not: 0 if it can't go there. */
        private int hardness(State state, int goer, int field, boolean locked) {
            int top = 0;
            for (int i = 0; i < codes; i++) {
                int one = code[i];
                if (one == -NEGATED) {
                    if (top < 1) {
                        return 0;
                    }
                    values[top - 1] = -values[top - 1];
                } else if (one < 0 && bindingOf((char) -one) > 0) {
                    if (top < 2) {
                        return 0;
                    }
                    top--;
                    values[top - 1] = joined((char) -one, values[top - 1], values[top]);
                } else {
                    if (top >= values.length) {
                        return 0;
                    }
                    values[top] = one >= 0 ? one : thing((char) -one, state, goer, field, locked);
                    top++;
                }
            }
            return top < 1 ? 0 : Math.max(0, Math.min(MOST_HARD, values[0]));
        }

        private static int thing(char letter, State state, int goer, int field, boolean locked) {
            switch (letter) {
                case 'k':
                    return state.kind[field];
                case 'r':
                    return (state.rights[goer] >>> state.kind[field]) & 1;
                case 'o':
                    return locked ? 1 : 0;
                case 'w':
                    return state.worn[field];
                case 'n':
                    return state.night % 7;
                default:
                    return goer;
            }
        }

        private static int joined(char sign, int left, int right) {
            switch (sign) {
                case '<':
                    return left < right ? 1 : 0;
                case '>':
                    return left > right ? 1 : 0;
                case '=':
                    return left == right ? 1 : 0;
                case '+':
                    return left + right;
                case '-':
                    return left - right;
                case '*':
                    return left * right;
                default:
                    return right == 0 ? 0 : left / right;
            }
        }
    }

    /** A PATH that was looked for; without FIELDS, if there is none. */
    private static final class Path {
        private int hardness = 0;
        private int length = 0;
        private long bits = 0;
        private final int[] fields = new int[MOST_FIELDS];

        private void clear() {
            hardness = 0;
            length = 0;
            bits = 0;
        }

        private void add(int field) {
            if (length < fields.length) {
                fields[length] = field;
                length++;
                bits |= 1L << field;
            }
        }

        private boolean isThere() {
            return length > 0;
        }

        private int at(int step) {
            if (length == 0) {
                return NONE;
            }
            return fields[Math.max(0, Math.min(step, length - 1))];
        }

        /** The first step at which both are on the same FIELD, or NONE. */
        private int meeting(Path other) {
            if (length == 0 || other.length == 0) {
                return NONE;
            }
            int last = Math.max(length, other.length);
            for (int step = 0; step < last; step++) {
                if (at(step) == other.at(step)) {
                    return step;
                }
            }
            return NONE;
        }
    }

    /** Looks for the PATH of one GOER. */
    private static final class Walker {
        /** A step costs HARD times this, and 1: so the fewest FIELDS come first of those that are like HARD. */
        private static final int HARD_UNIT = 64;

        private final Ground ground;
        private final int[] cost = new int[MOST_FIELDS];
        private final int[] far = new int[MOST_FIELDS];

        private Walker(Ground ground) {
            this.ground = ground;
        }

        private void seek(State state, Rule rule, int goer, Path way) {
            way.clear();
            int from = state.from[goer];
            int goal = state.goal[goer];
            for (int f = 0; f < ground.size; f++) {
                int hardness = rule.hardness(state, goer, f, state.isLocked(f));
                cost[f] = hardness > 0 ? hardness * HARD_UNIT + 1 : 0;
            }
            if (cost[from] == 0 || cost[goal] == 0) {
                return;
            }
            measureFrom(goal);
            if (far[from] < NEVER) {
                way.hardness = far[from] / HARD_UNIT;
                follow(from, goal, way);
            }
        }

        private void measureFrom(int goal) {
            for (int f = 0; f < ground.size; f++) {
                far[f] = NEVER;
            }
            far[goal] = 0;
            // Forth and back in turn: most lands then need few rounds.
            for (int round = 0; round < ground.size; round++) {
                boolean nearer = false;
                for (int i = 0; i < ground.size; i++) {
                    nearer |= bringNearer((round & 1) == 0 ? i : ground.size - 1 - i);
                }
                if (!nearer) {
                    return;
                }
            }
        }

        private boolean bringNearer(int field) {
            if (cost[field] == 0) {
                return false;
            }
            int was = far[field];
            for (int d = 0; d < 4; d++) {
                int next = ground.beside[4 * field + d];
                if (next >= 0 && cost[next] > 0) {
                    far[field] = Math.min(far[field], far[next] + cost[next]);
                }
            }
            return far[field] < was;
        }

        private void follow(int from, int goal, Path way) {
            int at = from;
            way.add(at);
            for (int step = 0; step < ground.size && at != goal; step++) {
                at = nextOf(at);
                way.add(at);
            }
        }

        private int nextOf(int field) {
            for (int d = 0; d < 4; d++) {
                int next = ground.beside[4 * field + d];
                if (next >= 0 && cost[next] > 0 && far[next] + cost[next] == far[field]) {
                    return next;
                }
            }
            return field;
        }
    }

    /** All GOERS together: their PATHS, their NIGHTS, and what they can go on. */
    private static final class Band {
        private final Ground ground;
        private final Walker walker;
        private final Path[] paths = new Path[MOST_GOERS];
        private final long[] ifOpen = new long[MOST_GOERS];
        private final long[] ifLocked = new long[MOST_GOERS];
        private int came = 0;
        private int missed = 0;
        private int opened = 0;

        private Band(Ground ground) {
            this.ground = ground;
            walker = new Walker(ground);
            for (int g = 0; g < MOST_GOERS; g++) {
                paths[g] = new Path();
            }
        }

        private void seekAll(State state, Rule rule) {
            for (int g = 0; g < state.goers; g++) {
                walker.seek(state, rule, g, paths[g]);
            }
        }

        private int over(State state, int field) {
            int bits = 0;
            for (int g = 0; g < state.goers; g++) {
                bits |= hasBit(paths[g].bits, field) ? 1 << g : 0;
            }
            return bits;
        }

        private int walking(State state) {
            int many = 0;
            for (int g = 0; g < state.goers; g++) {
                many += paths[g].isThere() ? 1 : 0;
            }
            return many;
        }

        private void restart() {
            came = 0;
            missed = 0;
            opened = 0;
        }

        private void pass(State state, Rule rule, int use) {
            for (int g = 0; g < state.goers; g++) {
                walker.seek(state, rule, g, paths[g]);
            }
            for (int g = 0; g < state.goers; g++) {
                tally(state, g);
            }
            for (int f = 0; f < ground.size; f++) {
                wear(state, f, use);
            }
            state.night++;
        }

        private void tally(State state, int goer) {
            if (paths[goer].isThere()) {
                came++;
                state.came[goer] = Math.min(MOST_TIMES, state.came[goer] + 1);
            } else {
                missed++;
                state.missed[goer] = Math.min(MOST_TIMES, state.missed[goer] + 1);
            }
        }

        private void wear(State state, int field, int use) {
            int steps = Integer.bitCount(over(state, field));
            state.worn[field] = Math.min(MOST_WORN, state.worn[field] + steps);
            boolean canOpen = state.kind[field] == 1 || state.kind[field] == 2;
            if (canOpen && state.worn[field] >= use) {
                state.kind[field] = 0;
                opened++;
            }
        }

        private long goable(State state, Rule rule, int goer) {
            long bits = 0;
            for (int f = 0; f < ground.size; f++) {
                bits |= rule.hardness(state, goer, f, state.isLocked(f)) > 0 ? 1L << f : 0;
            }
            return bits;
        }

        /** What each can go on with all FIELDS LOCKED and with none: every other choice is a mix of both. */
        private void survey(State state, Rule rule) {
            for (int g = 0; g < state.goers; g++) {
                ifOpen[g] = 0;
                ifLocked[g] = 0;
                for (int f = 0; f < ground.size; f++) {
                    ifOpen[g] |= rule.hardness(state, g, f, false) > 0 ? 1L << f : 0;
                    ifLocked[g] |= rule.hardness(state, g, f, true) > 0 ? 1L << f : 0;
                }
            }
        }

        private boolean comes(State state, int goer, long locked) {
            long can = (ifOpen[goer] & ~locked) | (ifLocked[goer] & locked);
            return hasBit(ground.flood(can, state.from[goer]), state.goal[goer]);
        }

        private int blockedBy(State state, long locked) {
            int bits = 0;
            for (int g = 0; g < state.goers; g++) {
                bits |= comes(state, g, locked) ? 0 : 1 << g;
            }
            return bits;
        }

        private boolean allCome(State state, long locked) {
            return blockedBy(state, locked) == 0;
        }
    }

    /**
     * The fewest FIELDS that part two: as many as there are ways between them that share no FIELD.
     * Each FIELD is two places, where it is entered (2 f) and where it is left (2 f + 1).
     */
    private static final class Parting {
        private static final int MOST_PLACES = 2 * MOST_FIELDS;

        private final Ground ground;
        private long can = 0;
        private long through = 0;
        private final long[] along = new long[4];
        private final int[] cameFrom = new int[MOST_PLACES];
        private final int[] queue = new int[MOST_PLACES];
        private int queued = 0;

        private Parting(Ground ground) {
            this.ground = ground;
        }

        private int fewest(long goable, int from, int goal) {
            can = goable;
            through = 0;
            for (int d = 0; d < 4; d++) {
                along[d] = 0;
            }
            int found = 0;
            while (found < 4 && searches(2 * from + 1, 2 * goal)) {
                turnBack(2 * from + 1, 2 * goal);
                found++;
            }
            return found;
        }

        private boolean searches(int start, int target) {
            for (int place = 0; place < MOST_PLACES; place++) {
                cameFrom[place] = NONE;
            }
            queued = 0;
            visit(start, start);
            for (int i = 0; i < queued && i < queue.length; i++) {
                int place = queue[i];
                if (place == target) {
                    return true;
                }
                if ((place & 1) == 1) {
                    leave(place);
                } else {
                    enter(place);
                }
            }
            return false;
        }

        private void visit(int place, int by) {
            if (cameFrom[place] == NONE && queued < queue.length) {
                cameFrom[place] = by;
                queue[queued] = place;
                queued++;
            }
        }

        private void leave(int place) {
            int field = place / 2;
            if (hasBit(through, field)) {
                visit(place - 1, place);
            }
            for (int d = 0; d < 4; d++) {
                int next = ground.beside[4 * field + d];
                if (next >= 0 && hasBit(can, next) && !hasBit(along[d], field)) {
                    visit(2 * next, place);
                }
            }
        }

        private void enter(int place) {
            int field = place / 2;
            if (!hasBit(through, field)) {
                visit(place + 1, place);
            }
            for (int d = 0; d < 4; d++) {
                int other = ground.beside[4 * field + d];
                // The way from the other FIELD to this one is the opposite of d.
                if (other >= 0 && hasBit(along[3 - d], other)) {
                    visit(2 * other + 1, place);
                }
            }
        }

        /** Each step of the way found is taken, or, where a way went against it, given back. */
        private void turnBack(int start, int target) {
            int place = target;
            for (int i = 0; i < MOST_PLACES && place != start; i++) {
                int by = cameFrom[place];
                if (by < 0) {
                    return;
                }
                if (by / 2 == place / 2) {
                    through ^= 1L << (place / 2);
                } else if ((by & 1) == 1) {
                    turnStep(by / 2, place / 2);
                } else {
                    turnStep(place / 2, by / 2);
                }
                place = by;
            }
        }

        private void turnStep(int from, int to) {
            for (int d = 0; d < 4; d++) {
                if (ground.beside[4 * from + d] == to) {
                    along[d] ^= 1L << from;
                }
            }
        }
    }

    /** The ROW. */
    private static final class Told {
        private final long[] numbers = new long[MOST_FIELDS];
        private int size = 0;

        private void begin() {
            size = 0;
        }

        private void add(long number) {
            if (size < numbers.length) {
                numbers[size] = number;
                size++;
            }
        }
    }
}
