import java.util.TreeSet;

/** The boundary cases of gates by turns, chances, rests and years: promises 38 to 41 and 43. */
public final class ChanceEdgesTest {
    private static final Checks CHECK = new Checks();
    private static final int MIN = Integer.MIN_VALUE;
    private static final int MAX = Integer.MAX_VALUE;
    private static final String FULL = "66" + ".".repeat(36);

    private static void due(String what, long got, long want) {
        CHECK.due(what, got, want);
    }

    private static void row(String what, BuriedWithIt x, long... want) {
        CHECK.row(what, x, want);
    }

    private static BuriedWithIt made(String land, String goers) {
        return Checks.made(land, goers);
    }

    private static void gates() {
        CHECK.promise("38 gates: (n 0 .. 40), another n");
        BuriedWithIt x = new BuriedWithIt();
        for (int n : new int[] {MIN, -1, 41, MAX}) {
            due("gates(" + n + ")", x.gates(n), -1);
            due("no ROW", x.count(13), 0);
        }
        due("gates(40) first of all", x.gates(40), 1);
        CHECK.promise("38 gates: who can't has lost (nothing, if he loses)");
        due("gates(0)", x.gates(0), 0);
        due("nothing", x.count(13), 0);
        CHECK.promise("38 gates: the least gate, one or two");
        due("gates(1)", x.gates(1), 1);
        row("gates(1)", x, 0, 1);
        due("gates(2)", x.gates(2), 1);
        row("gates(2)", x, 0, 2);
        boolean[][] wins = gatesByTurns(13);
        for (int n = 1; n <= 13; n++) {
            due("gates(" + n + ")", x.gates(n), 1);
            row("gates(" + n + ")", x, firstGate(n, wins[n]));
        }
        CHECK.promise("38 gates: 1 ahead of 2");
        for (int n = 3; n <= 40; n++) {
            due("gates(" + n + ")", x.gates(n), 1);
            due("the least of " + n + " is none behind the middle", x.row(0) <= (n - 1) / 2 ? 1 : 0, 1);
        }
    }

    /** Which rows of gates (bits: open ones) are won by who is to play, by trying all. */
    private static boolean[][] gatesByTurns(int most) {
        boolean[][] wins = new boolean[most + 1][];
        wins[most] = new boolean[1 << most];
        for (int open = 0; open < 1 << most; open++) {
            for (int at = 0; at < most; at++) {
                boolean one = (open >> at & 1) == 1;
                boolean two = one && (open >> (at + 1) & 1) == 1;
                wins[most][open] |= one && !wins[most][open & ~(1 << at)];
                wins[most][open] |= two && !wins[most][open & ~(3 << at)];
            }
        }
        for (int n = 0; n < most; n++) {
            wins[n] = wins[most];
        }
        return wins;
    }

    private static long[] firstGate(int n, boolean[] wins) {
        int all = (1 << n) - 1;
        for (int at = 0; at < n; at++) {
            if (!wins[all & ~(1 << at)]) {
                return new long[] {at, 1};
            }
            if (at + 1 < n && !wins[all & ~(3 << at)]) {
                return new long[] {at, 2};
            }
        }
        return new long[0];
    }

    private static void goes() {
        CHECK.promise("39 goes: others");
        String line = "0000;";
        BuriedWithIt x = made("66" + ".".repeat(36), line.repeat(5) + "0055");
        for (int f : new int[] {MIN, -1, 36, MAX}) {
            due("goes(" + f + ", 1, 5)", x.goes(f, 1, 5), -1);
        }
        for (int k : new int[] {MIN, -1, 7, MAX}) {
            due("goes(0, " + k + ", 5)", x.goes(0, k, 5), -1);
        }
        for (int p : new int[] {MIN, -1, 11, MAX}) {
            due("goes(0, 1, " + p + ")", x.goes(0, 1, p), -1);
        }
        due("no ROW", x.count(13), 0);
        CHECK.promise("39 goes: p tenths (0 .. 10)");
        for (int k = 0; k <= 6; k++) {
            due("none goes", x.goes(0, k, 0), 0);
            row("none goes, " + k + " or more", x, k == 0 ? 1 : 0, 1);
            due("all go", x.goes(0, k, 10), 0);
            row("all go, " + k + " or more", x, 1, 1);
            due("one goes at most", x.goes(35, k, 10), 0);
            row("one goes at most, " + k + " or more", x, k <= 1 ? 1 : 0, 1);
            due("none over it", x.goes(30, k, 10), 0);
            row("none over it, " + k + " or more", x, k == 0 ? 1 : 0, 1);
        }
        CHECK.promise("39 goes: k (0 .. 6) or more");
        int[][] half = {{1, 1}, {63, 64}, {57, 64}, {21, 32}, {11, 32}, {7, 64}, {1, 64}};
        for (int k = 0; k <= 6; k++) {
            x.goes(0, k, 5);
            row(k + " or more by 5", x, half[k][0], half[k][1]);
        }
        x.goes(0, 6, 1);
        row("six by 1", x, 1, 1000000);
        x.goes(0, 6, 9);
        row("six by 9", x, 531441, 1000000);
        x.goes(0, 1, 9);
        row("one by 9", x, 999999, 1000000);
        x.goes(0, 1, 1);
        row("one by 1", x, 468559, 1000000);
        x.goes(35, 1, 4);
        row("one of one", x, 2, 5);
        x.goes(35, 2, 4);
        row("two of one (0 by 1)", x, 0, 1);
        CHECK.promise("39 goes: each GOER that has a PATH");
        x.lock(35);
        x.goes(0, 6, 5);
        row("six of five", x, 0, 1);
        x.goes(0, 5, 5);
        row("five of five", x, 1, 32);
        x.goes(35, 1, 10);
        row("none over a LOCKED one", x, 0, 1);
        BuriedWithIt none = new BuriedWithIt();
        none.goes(0, 0, 5);
        row("without GOERS, none or more", none, 1, 1);
        none.goes(0, 1, 5);
        row("without GOERS, one or more", none, 0, 1);
    }

    private static void crowd() {
        CHECK.promise("40 crowd: -2: fewer than two have one");
        due("no GOER", new BuriedWithIt().crowd(), -2);
        due("one GOER", made("11.", "0000").crowd(), -2);
        due("one of two", made("12.w", "0000;0101").crowd(), -2);
        due("none of two", made("11w", "0000;0000").crowd(), -2);
        CHECK.promise("40 crowd: two GOERS or more");
        BuriedWithIt x = made("12..", "0000;0000");
        due("two", x.crowd(), 0);
        row("two", x, 1, 1);
        x.divert(1, 1);
        x.crowd();
        row("two at step 0", x, 1, 1);
        x = made("12..", "0000;0101");
        x.crowd();
        row("two apart (0 by 1)", x, 0, 1);
        x = made("13w..", "0000;0101;0202");
        due("two of three", x.crowd(), 0);
        row("two of three", x, 0, 1);
        CHECK.promise("40 crowd: the fraction, of six");
        String[] lines = {"0000;0101;0202;0303;0404;0505", "0000;0101;0202;0303;0404;0404",
            "0000;0101;0202;0303;0303;0303", "0000;0101;0202;0202;0202;0202", "0000;0101;0101;0101;0101;0101",
            "0101;0101;0101;0101;0101;0101"};
        long[][] want = {{0, 1}, {1, 15}, {1, 5}, {2, 5}, {2, 3}, {1, 1}};
        for (int i = 0; i < lines.length; i++) {
            BuriedWithIt y = made("16......", lines[i]);
            due("crowd", y.crowd(), 0);
            row("crowd " + i, y, want[i]);
        }
        CHECK.promise("40 crowd: as meets(), GOALS, too");
        x = made("13...", "0002;0202");
        x.crowd();
        row("at the GOAL", x, 1, 1);
        x = made("12..", "0001;0100");
        x.crowd();
        row("they pass one another", x, 0, 1);
    }

    private static void rests() {
        CHECK.promise("41 rests: v (0 .. 20), another v");
        BuriedWithIt x = new BuriedWithIt();
        for (int v : new int[] {MIN, -1, 21, MAX}) {
            due("rests(" + v + ")", x.rests(v), -1);
        }
        due("no ROW", x.count(13), 0);
        /*
         * By hand: x and y alike up to v (9 at most) rest: 0 .. v. If none is sold (y below x), the council would ask y,
         * unless y is 0, and the goer would offer x, unless x is v or more: 0 is offered and v .. 9 asked (1 at least).
         */
        for (int v = 0; v <= 20; v++) {
            int sold = Math.min(v, 9) + 1;
            int unsold = Math.max(0, 9 - Math.max(v, 1) + 1);
            due("rests(" + v + ")", x.rests(v), sold + unsold);
            row("rests(" + v + ")", x, 0, 0);
        }
        due("the least v", x.rests(0), 10);
        due("where both change", x.rests(9), 11);
        due("where both change", x.rests(10), 10);
        due("the greatest v", x.rests(20), 10);
    }

    /** The DRAWS by longs, as the document tells them. */
    private static final class Draws {
        private long r;

        private Draws(int seed) {
            r = seed & 0xFFFFFFFFL;
        }

        private int of(int n) {
            r = (r * 1103515245L + 12345L) & 0xFFFFFFFFL;
            return (int) (r / 65536 % n);
        }
    }

    private static final int[] SEEDS = {MIN, MIN + 1, -65536, -2, -1, 0, 1, 2, 3, 5, 65535, 65536, 12345, MAX - 1, MAX};

    /** LAND of one hedge and one GOER: who comes is known by one lock and three RIGHTS. */
    private static long[] yearsOfOne(int seed, int n) {
        Draws draws = new Draws(seed);
        boolean isLocked = false;
        int rights = 1;
        int came = 0;
        int missed = 0;
        int open = 1;
        for (int i = 0; i < n; i++) {
            int what = draws.of(4);
            if (what <= 1) {
                boolean comes = !isLocked && (rights >> open & 1) == 1;
                came += comes ? 1 : 0;
                missed += comes ? 0 : 1;
                open = came >= 3 ? 0 : open;
            } else if (what == 2) {
                draws.of(1);
                isLocked = !isLocked;
            } else {
                draws.of(1);
                rights ^= 1 << (draws.of(3) + 1);
            }
        }
        return new long[] {came, missed, isLocked ? 1 : 0};
    }

    /** LAND of 36 FIELDS without GOERS: what is LOCKED, and how often a ninth was to be. */
    private static int[] locksOfYears(int seed, int n) {
        Draws draws = new Draws(seed);
        TreeSet<Integer> locked = new TreeSet<>();
        int ninths = 0;
        for (int i = 0; i < n; i++) {
            int what = draws.of(4);
            if (what == 2) {
                int f = draws.of(36);
                if (!locked.remove(f)) {
                    if (locked.size() < 8) {
                        locked.add(f);
                    } else {
                        ninths++;
                    }
                }
            }
        }
        return new int[] {locked.size(), ninths};
    }

    private static void years() {
        CHECK.promise("43 years: (1 .. 40), another n");
        BuriedWithIt x = new BuriedWithIt();
        for (int seed : SEEDS) {
            for (int n : new int[] {MIN, -1, 0, 41, MAX}) {
                due("years(" + seed + ", " + n + ")", x.years(seed, n), -1);
            }
        }
        due("no ROW", x.count(13), 0);
        CHECK.promise("43 years: a DRAW at the ends of int, with a GOER");
        for (int i = 0; i < 400; i++) {
            int seed = i < SEEDS.length ? SEEDS[i] : i * 7919;
            int n = i < SEEDS.length ? 40 : 1 + i % 40;
            BuriedWithIt y = made("11h", "0000h");
            y.use(3);
            y.grant(0, 1);
            long[] want = yearsOfOne(seed, n);
            due("years(" + seed + ", " + n + ")", y.years(seed, n), want[0]);
            row("years(" + seed + ", " + n + ")", y, want[1], want[2]);
        }
        due("the first DRAW of seed 0 is a NIGHT", made("11.", "0000").years(0, 1), 1);
        BuriedWithIt again = made("11.", "0000;0000");
        again.nights(9);
        for (int i = 0; i < 3; i++) {
            due("in these alone", again.years(0, 1), 2);
            row("in these alone", again, 0, 0);
        }
        CHECK.promise("43 years: one that is LOCKED, or not any more, if it can be");
        CHECK.promise("43 years: nothing, no DRAWS more, without GOERS");
        int ninths = 0;
        BuriedWithIt z = made(FULL, "");
        for (int i = 0; i < 400; i++) {
            int seed = i < SEEDS.length ? SEEDS[i] : i * 104729;
            int[] want = locksOfYears(seed, 40);
            ninths += want[1];
            due("years(" + seed + ", 40)", z.years(seed, 40), 0);
            row("years(" + seed + ", 40)", z, 0, want[0]);
        }
        due("a ninth was to be LOCKED now and then", ninths > 0 ? 1 : 0, 1);
        BuriedWithIt eight = made(FULL, "");
        for (int f = 0; f < 8; f++) {
            eight.lock(f);
        }
        for (int n = 1; n <= 40; n++) {
            eight.years(7, n);
            due("eight at most", eight.row(1) <= 8 ? 1 : 0, 1);
        }
        CHECK.promise("43 years: it is a question");
        due("LOCKED", eight.count(5), 8);
        due("NIGHT", eight.count(4), 0);
        due("what can be undone", eight.count(12), 8);
    }

    public static void main(String[] args) {
        gates();
        goes();
        crowd();
        rests();
        years();
        CHECK.end();
    }
}
