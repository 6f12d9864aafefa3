import java.util.ArrayList;
import java.util.Arrays;
import java.util.HashMap;
import java.util.HashSet;
import java.util.List;
import java.util.Map;
import java.util.NoSuchElementException;
import java.util.PriorityQueue;
import java.util.TreeSet;

/** The document a second time, by other and slower means: RandomRunsTest compares both. */
final class Model {
    static final class Walker implements Cloneable {
        int from;
        int goal;
        TreeSet<Integer> rights = new TreeSet<>();
        int came;
        int missed;

        Walker copy() {
            Walker w = new Walker();
            w.from = from;
            w.goal = goal;
            w.rights = new TreeSet<>(rights);
            w.came = came;
            w.missed = missed;
            return w;
        }

        int bits() {
            int b = 0;
            for (int r : rights) {
                b += (int) Math.pow(2, r);
            }
            return b;
        }
    }

    static final class World {
        int[] kind = new int[1];
        int[] worn = new int[1];
        TreeSet<Integer> locked = new TreeSet<>();
        int night;
        List<Walker> goers = new ArrayList<>();

        World copy() {
            World w = new World();
            w.kind = kind.clone();
            w.worn = worn.clone();
            w.locked = new TreeSet<>(locked);
            w.night = night;
            for (Walker g : goers) {
                w.goers.add(g.copy());
            }
            return w;
        }
    }

    static final class Way implements Comparable<Way> {
        int hard;
        List<Integer> fields = new ArrayList<>();

        public int compareTo(Way o) {
            if (hard != o.hard) {
                return Integer.compare(hard, o.hard);
            }
            if (fields.size() != o.fields.size()) {
                return Integer.compare(fields.size(), o.fields.size());
            }
            return Arrays.compare(fields.stream().mapToInt(i -> i).toArray(),
                    o.fields.stream().mapToInt(i -> i).toArray());
        }
    }

    static final String PLAIN = "r*(1-o)*(1+k)";
    int rows = 1;
    int columns = 1;
    World world = new World();
    int use = 20;
    String rule = PLAIN;
    String text = "";
    List<Long> row = new ArrayList<>();
    List<World> past = new ArrayList<>();
    Map<Integer, World> kept = new HashMap<>();
    List<int[]> prints = new ArrayList<>();

    // ---- the rule, by trying the grammar backwards: split at the operator that binds least

    /** Where the text fails, or -1: a machine over what may come next. */
    static int ruleFault(String s) {
        String r = s.length() > 40 ? s.substring(0, 40) : s;
        ArrayList<Boolean> compared = new ArrayList<>(List.of(false));
        boolean thing = true;
        int digits = 0;
        for (int p = 0; p < r.length(); p++) {
            char c = r.charAt(p);
            int top = compared.size() - 1;
            boolean digit = "0123456789".indexOf(c) >= 0;
            if (thing) {
                if (digit || "krowni".indexOf(c) >= 0) {
                    thing = false;
                    digits = digit ? 1 : 9;
                } else if (c == '(' && top < 4) {
                    compared.add(false);
                } else if (c != '-') {
                    return p;
                }
            } else if (digit) {
                if (digits >= 3) {
                    return p;
                }
                digits++;
            } else {
                digits = 9;
                if (c == ')' && top > 0) {
                    compared.remove(top);
                } else if ("+-*/".indexOf(c) >= 0) {
                    thing = true;
                } else if ("<>=".indexOf(c) >= 0 && !compared.get(top)) {
                    compared.set(top, true);
                    thing = true;
                } else {
                    return p;
                }
            }
        }
        if (s.length() > 40) {
            return 40;
        }
        return thing || compared.size() > 1 ? s.length() : -1;
    }

    /** Where an operator of these stands outside ( ) behind a thing: the last one, or -1. */
    static int splitAt(String s, String operators) {
        int open = 0;
        int found = -1;
        for (int p = 0; p < s.length(); p++) {
            char c = s.charAt(p);
            if (c == '(') {
                open++;
            } else if (c == ')') {
                open--;
            } else if (open == 0 && p > 0 && operators.indexOf(c) >= 0
                    && "+-*/<>=(".indexOf(s.charAt(p - 1)) < 0) {
                found = p;
            }
        }
        return found;
    }

    static int value(String s, Map<Character, Integer> things) {
        for (String level : new String[] {"<>=", "+-", "*/"}) {
            int at = splitAt(s, level);
            if (at >= 0) {
                int a = value(s.substring(0, at), things);
                int b = value(s.substring(at + 1), things);
                switch (s.charAt(at)) {
                    case '<': return a < b ? 1 : 0;
                    case '>': return a > b ? 1 : 0;
                    case '=': return a == b ? 1 : 0;
                    case '+': return a + b;
                    case '-': return a - b;
                    case '*': return a * b;
                    default: return b == 0 ? 0 : a / b;
                }
            }
        }
        if (s.charAt(0) == '-') {
            return -value(s.substring(1), things);
        }
        if (s.charAt(0) == '(') {
            return value(s.substring(1, s.length() - 1), things);
        }
        Integer thing = things.get(s.charAt(0));
        return thing != null ? thing : Integer.parseInt(s);
    }

    private final Map<String, Integer> known = new HashMap<>();

    int hardOf(World w, String by, int g, int f) {
        int r = w.goers.get(g).rights.contains(w.kind[f]) ? 1 : 0;
        int o = w.locked.contains(f) ? 1 : 0;
        String key = by + "|" + w.kind[f] + "," + r + "," + o + "," + w.worn[f] + "," + w.night % 7 + "," + g;
        Integer old = known.get(key);
        if (old == null) {
            int v = value(by, Map.of('k', w.kind[f], 'r', r, 'o', o, 'w', w.worn[f], 'n', w.night % 7, 'i', g));
            old = v < 1 ? 0 : v > 99 ? 99 : v;
            known.put(key, old);
        }
        return old;
    }

    int size() {
        return rows * columns;
    }

    List<Integer> besides(int f) {
        List<Integer> list = new ArrayList<>();
        for (int g = 0; g < size(); g++) {
            if (Math.abs(g / columns - f / columns) + Math.abs(g % columns - f % columns) == 1) {
                list.add(g);
            }
        }
        return list;
    }

    /** Growing ways forward, the best first, whole rows compared. */
    Way way(World w, String by, int g) {
        Walker goer = w.goers.get(g);
        int[] hard = new int[size()];
        for (int f = 0; f < size(); f++) {
            hard[f] = hardOf(w, by, g, f);
        }
        if (hard[goer.from] == 0) {
            return null;
        }
        PriorityQueue<Way> open = new PriorityQueue<>();
        HashSet<Integer> closed = new HashSet<>();
        Way first = new Way();
        first.fields.add(goer.from);
        open.add(first);
        while (!open.isEmpty()) {
            Way best = open.poll();
            int at = best.fields.get(best.fields.size() - 1);
            if (at == goer.goal) {
                return best;
            }
            if (!closed.add(at)) {
                continue;
            }
            for (int next : besides(at)) {
                if (hard[next] > 0 && !closed.contains(next)) {
                    Way more = new Way();
                    more.hard = best.hard + hard[next];
                    more.fields.addAll(best.fields);
                    more.fields.add(next);
                    open.add(more);
                }
            }
        }
        return null;
    }

    List<Way> ways(World w, String by) {
        List<Way> all = new ArrayList<>();
        for (int g = 0; g < w.goers.size(); g++) {
            all.add(way(w, by, g));
        }
        return all;
    }

    static int there(List<Way> ways) {
        int n = 0;
        for (Way w : ways) {
            n += w != null ? 1 : 0;
        }
        return n;
    }

    /** CAME, MISSED, opened. */
    int[] night(World w) {
        int[] tally = new int[3];
        List<Way> ways = ways(w, rule);
        for (int g = 0; g < ways.size(); g++) {
            Walker goer = w.goers.get(g);
            if (ways.get(g) != null) {
                tally[0]++;
                goer.came = goer.came < 999 ? goer.came + 1 : 999;
                for (int f : ways.get(g).fields) {
                    w.worn[f] = w.worn[f] < 99 ? w.worn[f] + 1 : 99;
                }
            } else {
                tally[1]++;
                goer.missed = goer.missed < 999 ? goer.missed + 1 : 999;
            }
        }
        for (int f = 0; f < size(); f++) {
            if ((w.kind[f] == 1 || w.kind[f] == 2) && w.worn[f] >= use) {
                w.kind[f] = 0;
                tally[2]++;
            }
        }
        w.night++;
        return tally;
    }

    boolean hasField(int f) {
        return f >= 0 && f < size();
    }

    boolean hasGoer(int g) {
        return g >= 0 && g < world.goers.size();
    }

    void tell(long... numbers) {
        row = new ArrayList<>();
        for (long n : numbers) {
            row.add(n);
        }
    }

    // ---- the calls

    int sign(int v) {
        if (text.length() > 76) {
            return -1;
        }
        text += "" + (char) (v >> 24 & 255) + (char) (v >> 16 & 255) + (char) (v >> 8 & 255) + (char) (v & 255);
        return text.length();
    }

    int end(int n) {
        if (n < 0 || n > text.length()) {
            return 0;
        }
        text = text.substring(0, n);
        return 1;
    }

    String read() {
        String t = text;
        text = "";
        return t;
    }

    int land() {
        String t = read();
        for (int p = 0; p < 2; p++) {
            if (t.length() <= p || "123456".indexOf(t.charAt(p)) < 0) {
                return -1 - p;
            }
        }
        int n = (t.charAt(0) - '0') * (t.charAt(1) - '0');
        for (int p = 2; p < 2 + n; p++) {
            if (t.length() <= p || ".hbw".indexOf(t.charAt(p)) < 0) {
                return -1 - p;
            }
        }
        if (t.length() > n + 2) {
            return -1 - (n + 2);
        }
        rows = t.charAt(0) - '0';
        columns = t.charAt(1) - '0';
        world = new World();
        world.kind = new int[n];
        world.worn = new int[n];
        for (int f = 0; f < n; f++) {
            world.kind[f] = ".hbw".indexOf(t.charAt(2 + f));
        }
        past.clear();
        kept.clear();
        prints.clear();
        return n;
    }

    int goers() {
        String t = read();
        if (t.isEmpty()) {
            return 0;
        }
        List<Walker> come = new ArrayList<>();
        // What may come next, told by a place in the LINE: 0 .. 3 digits, 4 .. 7 behind them (4 + the KIND last told).
        int place = 0;
        Walker w = null;
        for (int p = 0; p < t.length(); p++) {
            if (p == 47) {
                return -48;
            }
            char c = t.charAt(p);
            if (place == 0 && world.goers.size() + come.size() == 6) {
                return -1 - p;
            }
            if (place < 4) {
                int d = c - '0';
                if (d < 0 || d > 9 || d >= (place % 2 == 0 ? rows : columns)) {
                    return -1 - p;
                }
                if (place == 0) {
                    w = new Walker();
                    w.rights.add(0);
                    come.add(w);
                    w.from = d * columns;
                } else if (place == 1) {
                    w.from += d;
                } else if (place == 2) {
                    w.goal = d * columns;
                } else {
                    w.goal += d;
                }
                place++;
            } else if (c == ';') {
                place = 0;
            } else {
                int k = "hbw".indexOf(c) + 1;
                if (k == 0 || k + 4 <= place) {
                    return -1 - p;
                }
                w.rights.add(k);
                place = k + 4;
            }
        }
        if (place < 4) {
            return -1 - t.length();
        }
        world.goers.addAll(come);
        past.clear();
        kept.clear();
        return come.size();
    }

    int rule() {
        String t = read();
        int fault = t.isEmpty() ? -1 : ruleFault(t);
        if (fault >= 0) {
            return -1 - fault;
        }
        rule = t.isEmpty() ? PLAIN : t;
        return 0;
    }

    int field(int f, int what) {
        if (!hasField(f) || what < 0 || what > 3) {
            throw new NoSuchElementException();
        }
        if (what == 0) {
            return world.kind[f];
        }
        if (what == 1) {
            return world.worn[f];
        }
        if (what == 2) {
            return world.locked.contains(f) ? 1 : 0;
        }
        return over(ways(world, rule), f);
    }

    static int over(List<Way> ways, int f) {
        int bits = 0;
        for (int g = 0; g < ways.size(); g++) {
            if (ways.get(g) != null && ways.get(g).fields.contains(f)) {
                bits |= 1 << g;
            }
        }
        return bits;
    }

    int goer(int g, int what) {
        if (!hasGoer(g) || what < 0 || what > 5) {
            throw new NoSuchElementException();
        }
        Walker w = world.goers.get(g);
        int has = way(world, rule, g) != null ? 1 : 0;
        return new int[] {w.from, w.goal, w.bits(), w.came, w.missed, has}[what];
    }

    int hard(int g, int f) {
        return hasGoer(g) && hasField(f) ? hardOf(world, rule, g, f) : -1;
    }

    int use(int v) {
        if (v < 1 || v > 99) {
            return -1;
        }
        int was = use;
        use = v;
        return was;
    }

    int sheet(int kind, int n, int f, int step) {
        if (kind < 0 || kind > 3 || n > 36) {
            return -1;
        }
        if (kind == 3) {
            Arrays.fill(world.worn, 0);
            return -3;
        }
        if (n < 0) {
            return -2;
        }
        Arrays.fill(world.worn, 0);
        int sum = 0;
        for (int i = 0; i < n && i < size(); i++) {
            int v = f + i * step;
            v = kind == 0 ? (byte) v : kind == 1 ? (short) v : v;
            world.worn[i] = v < 0 ? 0 : v > 99 ? 99 : v;
            sum += world.worn[i];
        }
        return sum;
    }

    void push(World before) {
        past.add(before);
        if (past.size() > 12) {
            past.remove(0);
        }
    }

    int nights(int n) {
        if (n < 0 || n > 60) {
            return -1;
        }
        World before = world.copy();
        int[] sum = new int[3];
        for (int i = 0; i < n; i++) {
            int[] t = night(world);
            for (int j = 0; j < 3; j++) {
                sum[j] += t[j];
            }
        }
        if (n > 0) {
            push(before);
        }
        tell(sum[1], sum[2]);
        return sum[0];
    }

    int doLock(World w, int f) {
        if (!hasField(f)) {
            return -1;
        }
        if (w.locked.contains(f)) {
            w.locked.remove(f);
        } else if (w.locked.size() == 8) {
            return -2;
        } else {
            w.locked.add(f);
        }
        return w.locked.size();
    }

    int doGrant(World w, int g, int k) {
        if (!hasGoer(g) || k < 1 || k > 3) {
            return -1;
        }
        Walker goer = w.goers.get(g);
        if (!goer.rights.remove(k)) {
            goer.rights.add(k);
        }
        return goer.bits();
    }

    int doBuild(int f, int k) {
        if (!hasField(f) || k < 0 || k > 3) {
            return -1;
        }
        int was = world.kind[f];
        world.kind[f] = k;
        world.worn[f] = 0;
        return was;
    }

    int doDivert(int g, int f) {
        if (!hasGoer(g) || !hasField(f)) {
            return -1;
        }
        int was = world.goers.get(g).goal;
        if (was == f) {
            return -2;
        }
        world.goers.get(g).goal = f;
        return was;
    }

    int lock(int f) {
        World before = world.copy();
        int a = doLock(world, f);
        if (a >= 0) {
            push(before);
        }
        return a;
    }

    int build(int f, int k) {
        World before = world.copy();
        int a = doBuild(f, k);
        if (a >= 0) {
            push(before);
        }
        return a;
    }

    int grant(int g, int k) {
        World before = world.copy();
        int a = doGrant(world, g, k);
        if (a >= 0) {
            push(before);
        }
        return a;
    }

    int divert(int g, int f) {
        World before = world.copy();
        int a = doDivert(g, f);
        if (a >= 0) {
            push(before);
        }
        return a;
    }

    int year() {
        String t = read();
        List<String> acts = new ArrayList<>();
        String act = "";
        for (int p = 0; p < t.length(); p++) {
            char c = t.charAt(p);
            if (p == 60) {
                return -61;
            }
            act += c;
            boolean fits = false;
            boolean whole = false;
            for (String shape : new String[] {"n9", "l99", "b993", "g9x", "d999"}) {
                boolean like = act.length() <= shape.length();
                for (int i = 0; like && i < act.length(); i++) {
                    char s = shape.charAt(i);
                    char a = act.charAt(i);
                    like = s == '9' ? a >= '0' && a <= '9' : s == '3' ? a >= '0' && a <= '3'
                            : s == 'x' ? a >= '1' && a <= '3' : s == a;
                }
                fits |= like;
                whole |= like && act.length() == shape.length();
            }
            if (!fits) {
                return -1 - p;
            }
            if (whole) {
                acts.add(act);
                act = "";
            }
        }
        if (!act.isEmpty()) {
            return -1 - t.length();
        }
        World before = world.copy();
        int done = 0;
        int failed = 0;
        for (String a : acts) {
            if (act(a) < 0) {
                failed = 1;
                break;
            }
            done++;
        }
        if (done > 0) {
            push(before);
        }
        tell(failed, world.night);
        return done;
    }

    int at(String a, int p) {
        int r = a.charAt(p) - '0';
        int c = a.charAt(p + 1) - '0';
        return r < rows && c < columns ? r * columns + c : -1;
    }

    int act(String a) {
        switch (a.charAt(0)) {
            case 'n':
                for (int i = 0; i < a.charAt(1) - '0'; i++) {
                    night(world);
                }
                return 0;
            case 'l': return doLock(world, at(a, 1));
            case 'b': return doBuild(at(a, 1), a.charAt(3) - '0');
            case 'g': return doGrant(world, a.charAt(1) - '0', a.charAt(2) - '0');
            default: return doDivert(a.charAt(1) - '0', at(a, 2));
        }
    }

    int undo() {
        if (past.isEmpty()) {
            return -1;
        }
        world = past.remove(past.size() - 1);
        return past.size();
    }

    int path(int g) {
        if (!hasGoer(g)) {
            return -1;
        }
        Way w = way(world, rule, g);
        if (w == null) {
            return -2;
        }
        tell(w.fields.stream().mapToLong(i -> i).toArray());
        return w.hard;
    }

    int blocked() {
        int bits = 0;
        int n = 0;
        int sum = 0;
        for (int g = 0; g < world.goers.size(); g++) {
            Way w = way(world, rule, g);
            if (w == null) {
                bits += 1 << g;
                n++;
            } else {
                sum += w.hard;
            }
        }
        tell(n, sum);
        return bits;
    }

    int detour(int g, int f) {
        if (!hasGoer(g) || !hasField(f)) {
            return -1;
        }
        Way a = way(world, rule, g);
        World w = world.copy();
        w.locked.add(f);
        Way b = way(w, rule, g);
        return a == null || b == null ? -2 : b.hard - a.hard;
    }

    long vital(int g) {
        if (!hasGoer(g)) {
            return -1;
        }
        if (way(world, rule, g) == null) {
            return -2;
        }
        long bits = 0;
        int n = 0;
        for (int f = 0; f < size(); f++) {
            World w = world.copy();
            w.locked.add(f);
            if (way(w, rule, g) == null) {
                bits += 1L << f;
                n++;
            }
        }
        tell(n);
        return bits;
    }

    /** A way there by the fewest FIELDS, without those: null if there is none. */
    List<Integer> shortWay(Walker goer, TreeSet<Integer> can) {
        Map<Integer, Integer> by = new HashMap<>();
        List<Integer> queue = new ArrayList<>();
        if (can.contains(goer.from)) {
            queue.add(goer.from);
            by.put(goer.from, -1);
        }
        for (int i = 0; i < queue.size(); i++) {
            int at = queue.get(i);
            if (at == goer.goal) {
                List<Integer> way = new ArrayList<>();
                for (int f = at; f >= 0; f = by.get(f)) {
                    way.add(f);
                }
                return way;
            }
            for (int next : besides(at)) {
                if (can.contains(next) && !by.containsKey(next)) {
                    by.put(next, at);
                    queue.add(next);
                }
            }
        }
        return null;
    }

    /** Every cut takes a FIELD of any one way: each is tried. */
    boolean cutBy(Walker goer, TreeSet<Integer> can, int many) {
        List<Integer> way = shortWay(goer, can);
        if (way == null) {
            return true;
        }
        if (many == 0) {
            return false;
        }
        for (int f : way) {
            if (f != goer.from && f != goer.goal) {
                TreeSet<Integer> less = new TreeSet<>(can);
                less.remove(f);
                if (cutBy(goer, less, many - 1)) {
                    return true;
                }
            }
        }
        return false;
    }

    TreeSet<Integer> can(World w, int g) {
        TreeSet<Integer> can = new TreeSet<>();
        for (int f = 0; f < size(); f++) {
            if (hardOf(w, rule, g, f) > 0) {
                can.add(f);
            }
        }
        return can;
    }

    int cut(int g) {
        if (!hasGoer(g)) {
            return -1;
        }
        Walker goer = world.goers.get(g);
        TreeSet<Integer> can = can(world, g);
        for (int many = 0; many <= 4; many++) {
            if (cutBy(goer, can, many)) {
                return many;
            }
        }
        return -2;
    }

    int frees() {
        Integer[] locked = world.locked.toArray(new Integer[0]);
        int fewest = 99;
        long best = 0;
        for (int set = 0; set < 1 << locked.length; set++) {
            World w = world.copy();
            long bits = 0;
            for (int i = 0; i < locked.length; i++) {
                if ((set >> i) % 2 == 1) {
                    w.locked.remove(locked[i]);
                    bits += 1L << locked[i];
                }
            }
            int n = Integer.bitCount(set);
            if (n > fewest || n == fewest && bits >= best) {
                continue;
            }
            boolean all = true;
            for (int g = 0; g < w.goers.size() && all; g++) {
                all = shortWay(w.goers.get(g), can(w, g)) != null;
            }
            if (all) {
                fewest = n;
                best = bits;
            }
        }
        if (fewest == 99) {
            return -2;
        }
        tell(best);
        return fewest;
    }

    int busiest() {
        List<Way> ways = ways(world, rule);
        int most = 0;
        int best = 0;
        for (int f = size() - 1; f >= 0; f--) {
            int n = Integer.bitCount(over(ways, f));
            if (n >= most) {
                most = n;
                best = f;
            }
        }
        tell(most);
        return best;
    }

    /** Both walk on for longer than any way can be. */
    static int meeting(Way a, Way b) {
        if (a == null || b == null) {
            return -1;
        }
        for (int step = 0; step < 100; step++) {
            int x = a.fields.get(step < a.fields.size() ? step : a.fields.size() - 1);
            int y = b.fields.get(step < b.fields.size() ? step : b.fields.size() - 1);
            if (x == y) {
                return step;
            }
        }
        return -1;
    }

    int meets(int a, int b) {
        if (!hasGoer(a) || !hasGoer(b) || a == b) {
            return -1;
        }
        Way x = way(world, rule, a);
        Way y = way(world, rule, b);
        int step = meeting(x, y);
        if (step < 0) {
            return -2;
        }
        HashSet<Integer> both = new HashSet<>(x.fields);
        both.retainAll(y.fields);
        tell(x.fields.get(Math.min(step, x.fields.size() - 1)), both.size());
        return step;
    }

    long reach(int g) {
        if (!hasGoer(g)) {
            return -1;
        }
        Walker goer = world.goers.get(g).copy();
        TreeSet<Integer> can = can(world, g);
        long bits = 0;
        int n = 0;
        int most = 0;
        for (int f = 0; f < size(); f++) {
            goer.goal = f;
            if (shortWay(goer, can) != null) {
                bits += 1L << f;
                n++;
                most = Math.max(most, hardOf(world, rule, g, f));
            }
        }
        tell(n, most);
        return bits;
    }

    int better(int g) {
        if (!hasGoer(g)) {
            return -1;
        }
        Way now = way(world, rule, g);
        int best = -2;
        int least = 0;
        for (int k = 3; k >= 1; k--) {
            World w = world.copy();
            if (w.goers.get(g).rights.add(k)) {
                Way then = way(w, rule, g);
                boolean less = then != null && (now == null || then.hard < now.hard);
                if (less && (best < 0 || then.hard <= least)) {
                    best = k;
                    least = then.hard;
                }
            }
        }
        if (best > 0) {
            tell(least);
        }
        return best;
    }

    int gate() {
        HashSet<Integer> not = new HashSet<>(world.locked);
        for (Walker w : world.goers) {
            not.add(w.from);
            not.add(w.goal);
        }
        int best = -2;
        int bits = 0;
        for (int f = size() - 1; f >= 0; f--) {
            if (!not.contains(f)) {
                World w = world.copy();
                w.locked.add(f);
                int without = 0;
                for (int g = 0; g < w.goers.size(); g++) {
                    without |= shortWay(w.goers.get(g), can(w, g)) == null ? 1 << g : 0;
                }
                if (best < 0 || Integer.bitCount(without) >= Integer.bitCount(bits)) {
                    best = f;
                    bits = without;
                }
            }
        }
        if (best >= 0) {
            tell(bits);
        }
        return best;
    }

    World in(int n) {
        World w = world.copy();
        for (int i = 0; i < n; i++) {
            night(w);
        }
        return w;
    }

    int claims(int f) {
        if (!hasField(f)) {
            return -1;
        }
        World w = world.copy();
        for (int n = 0; n < 100; n++) {
            if (w.kind[f] == 0) {
                tell(w.worn[f]);
                return n;
            }
            night(w);
        }
        return -2;
    }

    int later(int n) {
        if (n < 0 || n > 99) {
            return -1;
        }
        World w = in(n);
        long open = 0;
        for (int f = 0; f < size(); f++) {
            open += w.kind[f] == 0 ? 1L << f : 0;
        }
        tell(Arrays.stream(w.worn).sum(), open);
        return there(ways(w, rule));
    }

    int alters(int g) {
        if (!hasGoer(g)) {
            return -1;
        }
        boolean had = way(world, rule, g) != null;
        World w = world.copy();
        for (int n = 1; n <= 99; n++) {
            night(w);
            Way then = way(w, rule, g);
            if (had != (then != null)) {
                tell(then == null ? 0 : then.hard);
                return n;
            }
        }
        return -2;
    }

    int deepest(int n) {
        if (n < 0 || n > 99) {
            return -1;
        }
        World w = in(n);
        int most = Arrays.stream(w.worn).max().getAsInt();
        tell(most);
        for (int f = 0; ; f++) {
            if (w.worn[f] == most) {
                return f;
            }
        }
    }

    int print(int f, int is) {
        if (!hasField(f) || is != 0 && is != 1 || prints.size() == 12) {
            return -1;
        }
        prints.add(new int[] {f, is});
        return prints.size();
    }

    int forget() {
        int n = prints.size();
        prints.clear();
        return n;
    }

    int fitting(List<Way> ways) {
        int bits = 0;
        for (int g = 0; g < ways.size(); g++) {
            boolean fits = ways.get(g) != null;
            for (int[] p : prints) {
                fits = fits && ways.get(g).fields.contains(p[0]) == (p[1] == 1);
            }
            bits |= fits ? 1 << g : 0;
        }
        return bits;
    }

    int fits() {
        int bits = fitting(ways(world, rule));
        tell(Integer.bitCount(bits));
        return bits;
    }

    int look() {
        List<Way> ways = ways(world, rule);
        int fit = fitting(ways);
        if (fit == 0) {
            return -2;
        }
        int best = -1;
        int few = 99;
        for (int f = 0; f < size(); f++) {
            int yes = 0;
            int no = 0;
            for (int g = 0; g < ways.size(); g++) {
                if ((fit >> g) % 2 == 1) {
                    if (ways.get(g).fields.contains(f)) {
                        yes++;
                    } else {
                        no++;
                    }
                }
            }
            if (Math.max(yes, no) < few) {
                few = Math.max(yes, no);
                best = f;
            }
        }
        tell(few);
        return best;
    }

    private static final Map<String, Boolean> GAMES = new HashMap<>();

    /** Whether who has the turn wins, by trying all of it: runs of open gates, sorted. */
    static boolean wins(List<Integer> runs) {
        List<Integer> sorted = new ArrayList<>(runs);
        sorted.removeIf(r -> r == 0);
        sorted.sort(null);
        String key = sorted.toString();
        Boolean known = GAMES.get(key);
        if (known != null) {
            return known;
        }
        boolean wins = false;
        for (int i = 0; i < sorted.size() && !wins; i++) {
            for (int many = 1; many <= 2 && !wins; many++) {
                for (int at = 0; at + many <= sorted.get(i) && !wins; at++) {
                    wins = !wins(without(sorted, i, at, many));
                }
            }
        }
        GAMES.put(key, wins);
        return wins;
    }

    static List<Integer> without(List<Integer> runs, int i, int at, int many) {
        List<Integer> left = new ArrayList<>(runs);
        int run = left.remove(i);
        left.add(at);
        left.add(run - at - many);
        return left;
    }

    /** By trying all; slow above some 14. */
    int gates(int n) {
        if (n < 0 || n > 40) {
            return -1;
        }
        tell();
        for (int at = 0; at < n; at++) {
            for (int many = 1; many <= 2 && at + many <= n; many++) {
                if (!wins(without(List.of(n), 0, at, many))) {
                    tell(at, many);
                    return 1;
                }
            }
        }
        return 0;
    }

    void tellFraction(long a, long b) {
        for (long d = b; d > 1; d--) {
            if (a % d == 0 && b % d == 0) {
                a /= d;
                b /= d;
            }
        }
        tell(a, b);
    }

    /** Every set of those who go, one by one. */
    int goes(int f, int k, int p) {
        if (!hasField(f) || k < 0 || k > 6 || p < 0 || p > 10) {
            return -1;
        }
        List<Way> ways = ways(world, rule);
        int over = over(ways, f);
        int all = ways.size();
        long upper = 0;
        long lower = 1;
        for (int i = 0; i < all; i++) {
            lower *= 10;
        }
        for (int set = 0; set < 1 << all; set++) {
            if (Integer.bitCount(set & over) >= k) {
                long part = 1;
                for (int g = 0; g < all; g++) {
                    part *= (set >> g) % 2 == 1 ? p : 10 - p;
                }
                upper += part;
            }
        }
        tellFraction(upper, lower);
        return 0;
    }

    int crowd() {
        List<Way> ways = ways(world, rule);
        ways.removeIf(w -> w == null);
        int all = 0;
        int meet = 0;
        for (int a = 0; a < ways.size(); a++) {
            for (int b = 0; b < a; b++) {
                all++;
                meet += meeting(ways.get(a), ways.get(b)) >= 0 ? 1 : 0;
            }
        }
        if (all == 0) {
            return -2;
        }
        tellFraction(meet, all);
        return 0;
    }

    static int[] shares(int v, int x, int y) {
        return y < x ? new int[] {0, 0} : new int[] {(x + y) / 2, v - (x + y) / 2};
    }

    int rests(int v) {
        if (v < 0 || v > 20) {
            return -1;
        }
        tell();
        int n = 0;
        for (int pair = 99; pair >= 0; pair--) {
            int x = pair / 10;
            int y = pair % 10;
            boolean rests = true;
            for (int z = 0; z < 10; z++) {
                rests &= shares(v, z, y)[0] <= shares(v, x, y)[0];
                rests &= shares(v, x, z)[1] <= shares(v, x, y)[1];
            }
            if (rests) {
                n++;
                tell(x, y);
            }
        }
        return n;
    }

    int law() {
        String t = read();
        int fault = t.isEmpty() ? -1 : ruleFault(t);
        if (fault >= 0) {
            return -10000 - fault;
        }
        int a = there(ways(world, t.isEmpty() ? PLAIN : t));
        int b = there(ways(world, rule));
        tell(a, b);
        return a - b;
    }

    long r;

    int draw(int n) {
        r = r * 1103515245L + 12345L & 0xFFFFFFFFL;
        return (int) (r / 65536 % n);
    }

    int years(int seed, int n) {
        if (n < 1 || n > 40) {
            return -1;
        }
        r = seed & 0xFFFFFFFFL;
        World w = world.copy();
        int came = 0;
        int missed = 0;
        for (int i = 0; i < n; i++) {
            int what = draw(4);
            if (what <= 1) {
                int[] t = night(w);
                came += t[0];
                missed += t[1];
            } else if (what == 2) {
                doLock(w, draw(size()));
            } else if (!w.goers.isEmpty()) {
                int g = draw(w.goers.size());
                int k = draw(3) + 1;
                doGrant(w, g, k);
            }
        }
        tell(missed, w.locked.size());
        return came;
    }

    int keep(int i) {
        if (i != 0 && i != 1) {
            return 0;
        }
        kept.put(i, world.copy());
        return 1;
    }

    int again(int i) {
        if (!kept.containsKey(i)) {
            return 0;
        }
        world = kept.get(i).copy();
        past.clear();
        return 1;
    }

    int count(int what) {
        if (what < 0 || what > 14) {
            return -1;
        }
        int[] kinds = new int[4];
        for (int k : world.kind) {
            kinds[k]++;
        }
        return new int[] {rows, columns, world.goers.size(), use, world.night, world.locked.size(), kinds[0],
            kinds[1], kinds[2], kinds[3], Arrays.stream(world.worn).sum(), prints.size(), past.size(), row.size(),
            text.length()}[what];
    }

    long row(int i) {
        if (i < 0 || i >= row.size()) {
            throw new NoSuchElementException();
        }
        return row.get(i);
    }
}
