/** The boundary cases of what is asked of PATHS, USE and prints: promises 19 to 37. */
public final class QuestionEdgesTest {
    private static final Checks CHECK = new Checks();
    private static final int MIN = Integer.MIN_VALUE;
    private static final int MAX = Integer.MAX_VALUE;
    private static final String FULL = "66" + ".".repeat(36);
    private static final long ALL = (1L << 36) - 1;
    private static final int[] NO_GOER = {MIN, -1, 6, 7, 32, MAX};
    private static final int[] NO_FIELD = {MIN, -1, 36, 37, 64, MAX};
    /** FIELDS 5 and 6 alone can be gone on: the end of a row and the beginning of the next one. */
    private static final String ENDS = "26wwwww..wwwww";
    /** A way of 21 FIELDS through all rows. */
    private static final String SNAKE = "66......wwwww........wwwww......wwwww.";

    private static void due(String what, long got, long want) {
        CHECK.due(what, got, want);
    }

    private static void row(String what, BuriedWithIt x, long... want) {
        CHECK.row(what, x, want);
    }

    private static BuriedWithIt made(String land, String goers) {
        return Checks.made(land, goers);
    }

    private static BuriedWithIt made(String land, String goers, String rule) {
        BuriedWithIt x = made(land, goers);
        Checks.say(x, rule).rule();
        return x;
    }

    private static BuriedWithIt six(String line) {
        return made(FULL, (line + ";").repeat(5) + line);
    }

    private static BuriedWithIt locked(BuriedWithIt x, int... fields) {
        for (int f : fields) {
            x.lock(f);
        }
        return x;
    }

    private static void pathThere() {
        CHECK.promise("19 path: none such");
        BuriedWithIt x = six("0055");
        for (int g : NO_GOER) {
            due("path(" + g + ")", x.path(g), -1);
        }
        due("no ROW", x.count(13), 0);
        due("path(0)", x.path(0), 10);
        due("path(5)", x.path(5), 10);
        row("the least row", x, 0, 1, 2, 3, 4, 5, 11, 17, 23, 29, 35);
        due("without GOERS", new BuriedWithIt().path(0), -1);
        CHECK.promise("Terms, A PATH: FROM is GOAL: this one FIELD");
        BuriedWithIt y = made(FULL, "5555");
        due("FROM is GOAL", y.path(0), 0);
        row("FROM is GOAL", y, 35);
        CHECK.promise("19 path: -2: there is none");
        due("it can't go on FROM", made("12w.", "0001").path(0), -2);
        due("it can't go on GOAL", made("12.w", "0001").path(0), -2);
        due("it can't go between", made("13.w.", "0002").path(0), -2);
        due("FROM is GOAL, and it can't go there", made("11w", "0000").path(0), -2);
        due("FROM is LOCKED", locked(made("12..", "0001"), 0).path(0), -2);
        due("GOAL is LOCKED", locked(made("12..", "0001"), 1).path(0), -2);
        due("a corner is not beside", made("22.ww.", "0011").path(0), -2);
        due("a row's end is not beside the next row", made(ENDS, "0510").path(0), -2);
        due("nor back", made(ENDS, "1005").path(0), -2);
        due("nor in one row", made("16.w....", "0002").path(0), -2);
        due("nor in one column", made("61.w....", "0020").path(0), -2);
        BuriedWithIt wide = made(FULL, "0000");
        Checks.say(wide, "23ww..ww").land();
        Checks.say(wide, "0210;1002").goers();
        due("nor on a LAND that was wider", wide.path(0), -2);
        due("nor back on it", wide.path(1), -2);
        due("reach there", wide.reach(0), 4);
        due("reach back", wide.reach(1), 8);
        CHECK.promise("Terms, THE RULE: below 1 it can't go, 1 it can");
        due("1", made("12..", "0001", "1").path(0), 1);
        due("0", made("12..", "0001", "0").path(0), -2);
        due("0 on FROM", made("12h.", "0001", "1-k").path(0), -2);
        due("0 on GOAL", made("12.h", "0001", "1-k").path(0), -2);
        CHECK.promise("Terms, THE RULE: 99 at most");
        due("99", made("16......", "0005", "99").path(0), 495);
        due("100", made("16......", "0005", "100").path(0), 495);
        due("the longest", made(SNAKE, "0055", "r").path(0), 20);
        due("the longest and HARDEST", made(SNAKE, "0055", "r*999").path(0), 1980);
        due("blocked", made(SNAKE, "0055;5500;0055;5500;0055;5500", "r*999").blocked(), 0);
    }

    private static void pathLeast() {
        CHECK.promise("Terms, A PATH: of all its FIELDS but FROM");
        BuriedWithIt x = made("12hb", "0001hb;0100hb", "1+k*9");
        due("GOAL counts", x.path(0), 19);
        due("FROM does not", x.path(1), 10);
        CHECK.promise("Terms, A PATH: the least HARD");
        // From 0 to 2 by the hedge 1 (two FIELDS), or by 3 4 5 (four).
        String land = "23.h....";
        int[] hard = {4, 5, 5, 5};
        String[] rules = {"1+k*2", "1+k*3", "1+k*4", "1+k*9"};
        for (int i = 0; i < 4; i++) {
            BuriedWithIt y = made(land, "0002h", rules[i]);
            due("by " + rules[i], y.path(0), Math.min(hard[i], 4));
            if (i < 1) {
                row("the fewest FIELDS of like ones", y, 0, 1, 2);
            } else {
                row("less HARD around", y, 0, 3, 4, 5, 2);
            }
        }
        due("the hedge is HARD 2", made(land, "0002h", "1+k").path(0), 3);
        CHECK.promise("Terms, A PATH: of like ones the fewest FIELDS, though another row is less");
        BuriedWithIt few = made("23....h.", "1012h", "1+k*2");
        due("as HARD", few.path(0), 4);
        row("by the hedge", few, 3, 4, 5);
        CHECK.promise("Terms, A PATH: then the least row");
        BuriedWithIt z = made("33.........", "0022;2200;0220;2002");
        long[][] least = {{0, 1, 2, 5, 8}, {8, 5, 2, 1, 0}, {2, 1, 0, 3, 6}, {6, 3, 0, 1, 2}};
        for (int g = 0; g < 4; g++) {
            z.path(g);
            row("path(" + g + ")", z, least[g]);
        }
        z.build(1, 1);
        long[][] around = {{0, 3, 4, 5, 8}, {8, 5, 4, 3, 0}, {2, 5, 4, 3, 6}, {6, 3, 4, 5, 2}};
        for (int g = 0; g < 4; g++) {
            z.path(g);
            row("path(" + g + ") around", z, around[g]);
        }
    }

    private static void pathAnew() {
        CHECK.promise("19 path: as it is now, nothing of an earlier one");
        BuriedWithIt x = made("33.........", "0002;0020");
        due("both over 0", x.field(0, 3), 3);
        due("one over 1", x.field(1, 3), 1);
        x.lock(1);
        due("none over 1", x.field(1, 3), 0);
        due("one over 4", x.field(4, 3), 1);
        x.lock(1);
        due("none over 4", x.field(4, 3), 0);
        x.lock(2);
        due("none over 2", x.field(2, 3), 0);
        due("none over 1", x.field(1, 3), 0);
        due("one has none", x.goer(0, 5), 0);
        due("it is not in a print", x.fits(), 2);
        due("nor in meets", x.meets(0, 1), -2);
    }

    private static void blocked() {
        CHECK.promise("20 blocked: none, all");
        BuriedWithIt x = made(FULL, "");
        due("without GOERS", x.blocked(), 0);
        row("without GOERS", x, 0, 0);
        x = six("0055");
        due("none", x.blocked(), 0);
        row("none", x, 0, 60);
        x.lock(35);
        due("all six", x.blocked(), 63);
        row("all six", x, 6, 0);
        x.divert(5, 34);
        due("but the sixth", x.blocked(), 31);
        row("but the sixth", x, 5, 9);
    }

    private static void detour() {
        CHECK.promise("21 detour: none such");
        BuriedWithIt x = six("0055");
        for (int g : NO_GOER) {
            due("detour(" + g + ", 0)", x.detour(g, 0), -1);
            due("detour(" + g + ", 36)", x.detour(g, 36), -1);
        }
        for (int f : NO_FIELD) {
            due("detour(0, " + f + ")", x.detour(0, f), -1);
            due("detour(5, " + f + ")", x.detour(5, f), -1);
        }
        CHECK.promise("21 detour: none such ahead of -2");
        due("no FIELD, none now", made("12w.", "0001").detour(0, 2), -1);
        CHECK.promise("21 detour: -2: there would be none, or there is none now");
        due("FROM", x.detour(5, 0), -2);
        due("GOAL", x.detour(0, 35), -2);
        due("none now", locked(six("0055"), 35).detour(0, 1), -2);
        due("the one that is LOCKED", locked(six("0055"), 35).detour(0, 35), -2);
        due("FROM is GOAL", made("12..", "0000").detour(0, 0), -2);
        due("none now, one then", made("13.h.", "0002", "(k=0)+o").detour(0, 1), -2);
        due("the only way", made("13...", "0002").detour(0, 1), -2);
        CHECK.promise("21 detour: how much");
        due("as HARD around", x.detour(0, 1), 0);
        due("not on it", x.detour(5, 6), 0);
        due("FROM is GOAL, another one", made("12..", "0000").detour(0, 1), 0);
        BuriedWithIt y = made("33.........", "1012");
        due("two more", y.detour(0, 4), 2);
        due("ROW stays", y.count(13), 0);
        CHECK.promise("21 detour: besides those that are (eight, too)");
        BuriedWithIt z = locked(six("0005"), 30, 31, 32, 33, 34, 35, 29, 28);
        due("a ninth", z.detour(0, 1), 2);
        due("eight stay", z.count(5), 8);
        z.lock(28);
        z.lock(6);
        due("a ninth cuts off", z.detour(0, 1), -2);
        due("LOCKED already", z.detour(0, 35), 0);
        due("LOCKED already, though to open it were less HARD", locked(made("33.........", "1012"), 4).detour(0, 4), 0);
    }

    private static void vital() {
        CHECK.promise("22 vital: none such; -2: it has none now");
        BuriedWithIt x = six("0055");
        for (int g : NO_GOER) {
            due("vital(" + g + ")", x.vital(g), -1);
        }
        due("no ROW", x.count(13), 0);
        due("FROM and GOAL", x.vital(5), 1L << 35 | 1);
        row("FROM and GOAL", x, 2);
        due("none now", locked(six("0055"), 35).vital(5), -2);
        due("FROM is GOAL", made(FULL, "5555").vital(0), 1L << 35);
        due("all of a row", made("16......", "0005").vital(0), 63);
        BuriedWithIt snake = made(SNAKE, "0055");
        snake.path(0);
        long bits = 0;
        for (int i = 0; i < 21; i++) {
            bits |= 1L << snake.row(i);
        }
        due("all of the longest", snake.vital(0), bits);
        row("all of the longest", snake, 21);
        due("FIELD 0 is no way", made("22w...", "0110").vital(0), 14);
        due("FIELD 0 is a way", made("22...w", "0110").vital(0), 7);
        due("FROM is 0, none now", made("22w...", "0011").vital(0), -2);
        CHECK.promise("22 vital: by THE RULE");
        BuriedWithIt open = made("13...", "0002", "1");
        due("LOCKED ones can be gone on", open.vital(0), 0);
        row("LOCKED ones can be gone on", open, 0);
        due("by them none is cut off", open.gate(), 1);
        row("by them none is cut off", open, 0);
        Checks.say(open, "").rule();
        due("by none they can't", open.vital(0), 7);
        open.build(1, 3);
        due("nothing of it stays", open.vital(0), -2);
        BuriedWithIt need = made("13...", "0002", "(i=0)*(k=0)+o");
        due("one that is LOCKED may be needed", need.vital(0), 0);
        need.build(1, 1);
        due("it has none now", need.vital(0), -2);
        need.lock(1);
        due("it has one by the LOCKED one", need.vital(0), 0);
        need.grant(0, 1);
        due("to open it is not asked for", need.frees(), 0);
        CHECK.promise("22 vital: LOCKED besides (though eight are)");
        BuriedWithIt y = locked(six("0005"), 6, 7, 8, 9, 10, 11, 30, 31);
        due("the whole first row", y.vital(0), 63);
        row("the whole first row", y, 6);
        due("a row's end is not beside the next row", made("26......w.....", "0511").vital(0), 1L << 5 | 1L << 7);
    }

    private static void cut() {
        CHECK.promise("23 cut: none such");
        BuriedWithIt x = six("0055");
        for (int g : NO_GOER) {
            due("cut(" + g + ")", x.cut(g), -1);
        }
        due("two at a corner", x.cut(5), 2);
        CHECK.promise("23 cut: 0: it has none now");
        due("between", made("13.w.", "0002").cut(0), 0);
        due("beside, but GOAL is LOCKED", locked(made("12..", "0001"), 1).cut(0), 0);
        due("beside, but FROM is LOCKED", locked(made("12..", "0001"), 0).cut(0), 0);
        due("FROM is GOAL, but LOCKED", locked(made("12..", "0000"), 0).cut(0), 0);
        due("the rows' ends", made(ENDS, "0510").cut(0), 0);
        CHECK.promise("23 cut: -2: by none (FROM is beside GOAL, or is it)");
        due("FROM is GOAL", made("11.", "0000").cut(0), -2);
        String[] beside = {"1101", "1110", "1112", "1121"};
        for (String line : beside) {
            due("beside " + line, made("33.........", line).cut(0), -2);
        }
        String[] corners = {"1100", "1102", "1120", "1122"};
        for (String line : corners) {
            due("not beside " + line, made("33.........", line).cut(0), 2);
        }
        due("a row's end and the next row", made("26............", "0510").cut(0), 2);
        due("two on in a row", made("33.........", "1012").cut(0), 3);
        CHECK.promise("23 cut: the fewest, 1 to 4");
        due("one", made("13...", "0002").cut(0), 1);
        due("one of the longest", made(SNAKE, "0055").cut(0), 1);
        due("two", made("33....w....", "0022").cut(0), 2);
        due("three", made("55" + ".".repeat(25), "2024").cut(0), 3);
        due("four", made(FULL, "1144").cut(0), 4);
        due("four, two on", made("55" + ".".repeat(25), "2123").cut(0), 4);
        cutsByTrying();
        BuriedWithIt again = made("55" + ".".repeat(25), "0044;1133;2123;0044;4400;2123");
        int[] each = {2, 4, 4, 2, 2, 4};
        for (int g = 0; g < 6; g++) {
            due("one behind the other " + g, again.cut(g), each[g]);
        }
        CHECK.promise("23 cut: on which a GOER can go");
        due("not LOCKED ones", locked(made("55" + ".".repeat(25), "2123"), 12).cut(0), 3);
        due("not water", made("33.w.......", "1012").cut(0), 2);
        due("hedges by RIGHT", made("33.h.......", "0002h").cut(0), 2);
        due("hedges without", made("33.h.......", "0002").cut(0), 1);
    }

    private static boolean comes(int columns, boolean[] can, int from, int goal) {
        boolean[] seen = new boolean[can.length];
        int[] next = new int[can.length];
        int many = 0;
        if (can[from]) {
            seen[from] = true;
            next[many++] = from;
        }
        for (int i = 0; i < many; i++) {
            for (int f = 0; f < can.length; f++) {
                int apart = Math.abs(f / columns - next[i] / columns) + Math.abs(f % columns - next[i] % columns);
                if (apart == 1 && can[f] && !seen[f]) {
                    seen[f] = true;
                    next[many++] = f;
                }
            }
        }
        return seen[goal];
    }

    /** Whether so many FIELDS (those from the first on) can be taken away so that there is no way. */
    private static boolean cutBy(int many, int first, int columns, boolean[] can, int from, int goal) {
        if (!comes(columns, can, from, goal)) {
            return true;
        }
        boolean is = false;
        for (int f = first; many > 0 && f < can.length && !is; f++) {
            if (can[f] && f != from && f != goal) {
                can[f] = false;
                is = cutBy(many - 1, f + 1, columns, can, from, goal);
                can[f] = true;
            }
        }
        return is;
    }

    /** The first of these need ways that cross, are given back, or pass FIELD 0; the others are drawn. */
    private static void cutsByTrying() {
        CHECK.promise("23 cut: as by trying all");
        String[][] fixed = {{"65...ww...........w...w....w...w", "4201"}, {"52.....w....", "4101"},
            {"46w......w.w..w...w.......", "2134"}, {"36.........w........", "1015"},
            {"56............w.w.......w.......", "2341"}, {"33..w...w..", "0022"}, {"33..w...w..", "0121"},
            {"33......w..", "2100"}, {"23..w...", "0012"}, {"34............", "2201"},
            {"54..w..w..............", "4122"}, {"66....w.............w.............w...", "2411"}};
        int r = 1;
        for (int i = 0; i < 120; i++) {
            String land = i < fixed.length ? fixed[i][0] : "";
            String line = i < fixed.length ? fixed[i][1] : "";
            if (i >= fixed.length) {
                StringBuilder b = new StringBuilder("55");
                for (int f = 0; f < 25; f++) {
                    r = r * 1103515245 + 12345;
                    b.append((r >>> 16) % 5 == 0 ? 'w' : '.');
                }
                land = b.toString();
                line = "" + (i % 5) + "0" + (i / 5 % 5) + "3";
            }
            int columns = land.charAt(1) - '0';
            boolean[] can = new boolean[land.length() - 2];
            for (int f = 0; f < can.length; f++) {
                can[f] = land.charAt(f + 2) == '.';
            }
            int from = (line.charAt(0) - '0') * columns + line.charAt(1) - '0';
            int goal = (line.charAt(2) - '0') * columns + line.charAt(3) - '0';
            int want = 0;
            while (want < 4 && !cutBy(want, 0, columns, can, from, goal)) {
                want++;
            }
            due("cut " + land + " " + line, made(land, line).cut(0), want);
        }
    }

    private static void frees() {
        CHECK.promise("24 frees: none to be opened");
        BuriedWithIt x = made(FULL, "");
        due("without GOERS", x.frees(), 0);
        row("without GOERS", x, 0);
        due("without GOERS, LOCKED", locked(x, 0).frees(), 0);
        row("without GOERS, LOCKED", x, 0);
        CHECK.promise("24 frees: -2: by none");
        due("nothing is LOCKED", made("13.w.", "0002").frees(), -2);
        due("water", locked(made("13.w.", "0002"), 1).frees(), -2);
        due("one of two", locked(made("23...w..", "0002;1012"), 1).frees(), -2);
        CHECK.promise("24 frees: the fewest, one to eight");
        for (int many = 1; many <= 6; many++) {
            BuriedWithIt row = made("16......", "0005");
            for (int f = 0; f < many; f++) {
                row.lock(5 - f);
            }
            due("of a row " + many, row.frees(), many);
            row("of a row", row, 64 - (1L << (6 - many)));
        }
        BuriedWithIt eight = locked(made("24........", "0001;0203;1011;1213"), 0, 1, 2, 3, 4, 5, 6, 7);
        due("eight", eight.frees(), 8);
        row("eight", eight, 255);
        CHECK.promise("24 frees: of as few the least");
        BuriedWithIt wall = locked(made("66" + ".".repeat(36), "0050"), 6, 7, 8, 9, 10, 11);
        due("one of six", wall.frees(), 1);
        row("one of six", wall, 64);
        BuriedWithIt low = locked(made(FULL, "0055"), 30, 31, 34, 29, 23);
        due("the last FIELDS", low.frees(), 1);
        row("the last FIELDS", low, 1L << 29);
        due("GOAL, too", locked(low, 35).frees(), 2);
        row("GOAL, too", low, 1L << 29 | 1L << 35);
        // FROM is cut off by 1 and 3, GOAL by 5 and 7: of four pairs 1 and 5 are the least bits.
        BuriedWithIt pair = locked(made("33.........", "0022"), 7, 5, 3, 1);
        due("two", pair.frees(), 2);
        row("two", pair, 2 + 32);
    }

    private static void busiest() {
        CHECK.promise("25 busiest: none, of equal ones the first, all");
        BuriedWithIt x = made(FULL, "");
        due("without GOERS", x.busiest(), 0);
        row("without GOERS", x, 0);
        x = six("5555");
        due("the last FIELD", x.busiest(), 35);
        row("the last FIELD", x, 6);
        x = made("16......", "0002;0305");
        due("all one", x.busiest(), 0);
        row("all one", x, 1);
        x = made("16......", "0003;0205");
        due("two and three", x.busiest(), 2);
        row("two and three", x, 2);
        due("none goes", locked(six("5555"), 35).busiest(), 0);
    }

    private static void meets() {
        CHECK.promise("26 meets: none such, like ones");
        BuriedWithIt x = six("0055");
        for (int g : NO_GOER) {
            due("meets(" + g + ", 0)", x.meets(g, 0), -1);
            due("meets(5, " + g + ")", x.meets(5, g), -1);
        }
        for (int g = 0; g < 6; g++) {
            due("like ones", x.meets(g, g), -1);
        }
        due("like ones without a PATH", locked(six("0055"), 0).meets(3, 3), -1);
        CHECK.promise("26 meets: the first step");
        due("step 0", x.meets(0, 5), 0);
        row("step 0", x, 0, 11);
        CHECK.promise("26 meets: -2: at none, or one has no PATH");
        BuriedWithIt y = made("16......", "0005;0500;0200;0303;0004;0400");
        due("they pass one another", y.meets(0, 1), -2);
        due("the first has none", locked(made("13...", "0000;0202"), 0).meets(0, 1), -2);
        due("the second has none", locked(made("13...", "0000;0202"), 2).meets(0, 1), -2);
        due("both rest apart", made("13...", "0000;0202").meets(0, 1), -2);
        due("one goes on ahead of the other", made("16......", "0003;0105").meets(0, 1), -2);
        CHECK.promise("26 meets: and stay at their GOALS");
        due("at the last step", made("16......", "0005;0505").meets(0, 1), 5);
        due("likewise", made("16......", "0505;0005").meets(0, 1), 5);
        due("both come to it", made("15.....", "0002;0402").meets(0, 1), 2);
        due("one is there ahead", made("16......", "0002;0501").meets(0, 1), 3);
        due("over one that rests", made("16......", "0005;0303").meets(0, 1), 3);
        due("half way", y.meets(4, 5), 2);
        row("half way", y, 2, 5);
        CHECK.promise("26 meets: how many FIELDS both PATHS have");
        BuriedWithIt z = made("16......", "0005;0505");
        z.meets(0, 1);
        row("one", z, 5, 1);
        BuriedWithIt long21 = made(SNAKE, "0055;5500");
        due("half way of 21", long21.meets(0, 1), 10);
        row("half way of 21", long21, 14, 21);
    }

    private static void reach() {
        CHECK.promise("27 reach: none such");
        BuriedWithIt x = six("0055");
        for (int g : NO_GOER) {
            due("reach(" + g + ")", x.reach(g), -1);
        }
        due("no ROW", x.count(13), 0);
        CHECK.promise("27 reach: all, one, none");
        due("all", x.reach(5), ALL);
        row("all", x, 36, 1);
        BuriedWithIt y = made(ENDS, "0510;1005;0000");
        due("one", y.reach(0), 32);
        row("one", y, 1, 1);
        due("one", y.reach(1), 64);
        due("none (0 without)", y.reach(2), 0);
        row("none (0 without)", y, 0, 0);
        due("corners are not beside", made("33.w.w.w.w.", "1111").reach(0), 16);
        due("FROM is LOCKED", locked(six("0055"), 0).reach(0), 0);
        CHECK.promise("27 reach: the most HARD of these");
        BuriedWithIt z = made("15.hwbw", "0000hb", "r*(1+k*98)");
        due("a hedge", z.reach(0), 3);
        row("99 at most", z, 2, 99);
        z = made("13h..", "0002h");
        due("FROM, too", z.reach(0), 7);
        row("FROM, too", z, 3, 2);
    }

    private static void better() {
        CHECK.promise("28 better: none such");
        BuriedWithIt x = six("0055");
        for (int g : NO_GOER) {
            due("better(" + g + ")", x.better(g), -1);
        }
        CHECK.promise("28 better: -2: by none it is less HARD");
        due("none is less", x.better(5), -2);
        due("it has them all", made("13.w.", "0002hbw").better(0), -2);
        due("it has them all and no PATH", locked(made("13.w.", "0002hbw"), 1).better(0), -2);
        due("no PATH by any", locked(made("13.w.", "0002"), 1).better(0), -2);
        due("FROM is GOAL", made("11.", "0000").better(0), -2);
        due("as HARD", made("23.b....", "0002").better(0), -2);
        due("HARDER", made("23.w....", "0002").better(0), -2);
        due("a RIGHT that makes it HARDER", made("13.h.", "0002h", "1+r*5").better(0), -2);
        due("no ROW", x.count(13), 0);
        CHECK.promise("28 better: the KIND (1 .. 3)");
        String[] lands = {"13.h.", "13.b.", "13.w."};
        for (int kind = 1; kind <= 3; kind++) {
            BuriedWithIt y = made(lands[kind - 1], "0002");
            due("any PATH is less", y.better(0), kind);
            row("any PATH is less", y, kind + 2);
            due("nothing is granted", y.goer(0, 2), 1);
        }
        BuriedWithIt hardest = made(SNAKE.replace("wwwww.", "wwwwwh").replace(".wwwww", "hwwwww"), "0055", "r*999");
        due("any PATH, the HARDEST", hardest.better(0), 1);
        row("any PATH, the HARDEST", hardest, 1980);
        CHECK.promise("28 better: of equal ones the least");
        BuriedWithIt z = made("33.h......w", "0002;2022", "r*(3-2*(k>0))");
        due("two ways", z.better(0), 1);
        row("two ways", z, 4);
        BuriedWithIt w = made("35hhhhh.....wwwww", "1014", "r*(3-2*(k>0))");
        due("hedges and water alike", w.better(0), 1);
        w.grant(0, 1);
        due("it has it", w.better(0), -2);
        BuriedWithIt v = made("35hhhhh.....wwwww", "1014", "r*(4-k)");
        due("water is less HARD", v.better(0), 3);
        row("water is less HARD", v, 9);
    }

    private static void gate() {
        CHECK.promise("29 gate: -2: there is no such FIELD");
        BuriedWithIt x = new BuriedWithIt();
        due("without GOERS", x.gate(), 0);
        row("without GOERS", x, 0);
        due("the one is LOCKED", locked(x, 0).gate(), -2);
        due("FROM", made("11.", "0000").gate(), -2);
        due("FROM and GOAL", made("12..", "0001").gate(), -2);
        due("GOAL of the other", made("13...", "0002;0202").gate(), 1);
        due("FROM of the other", made("13...", "0002;0102").gate(), -2);
        due("GOAL of one without a PATH", made("14..w.", "0001;0302").gate(), -2);
        due("the third is LOCKED", locked(made("13...", "0002"), 1).gate(), -2);
        CHECK.promise("29 gate: the most, of equal ones the first");
        BuriedWithIt y = made("33.........", "0002;1012");
        due("none is left without", y.gate(), 1);
        row("none is left without", y, 0);
        y = made("16......", "0002;0305");
        due("equal ones", y.gate(), 1);
        row("equal ones", y, 1);
        y = made("16......", "0002;0305;0305");
        due("the most", y.gate(), 4);
        row("the most", y, 6);
        y = made("66" + "w".repeat(33) + "...", "5355;5553;5355;5553;5355;5553");
        due("all six", y.gate(), 34);
        row("all six", y, 63);
        BuriedWithIt corner = made("22...w", "0110");
        due("FIELD 0 more than another", corner.gate(), 0);
        row("FIELD 0 more than another", corner, 1);
        due("all alike", made(FULL, "").gate(), 0);
        CHECK.promise("29 gate: LOCKED (though eight are)");
        BuriedWithIt z = locked(six("0005"), 6, 7, 8, 9, 10, 11, 30, 31);
        due("a ninth", z.gate(), 1);
        row("a ninth", z, 63);
        due("eight stay", z.count(5), 8);
        CHECK.promise("29 gate: those without one already");
        BuriedWithIt w = made("14.w..", "0003");
        due("water is a FIELD, too", w.gate(), 1);
        row("water is a FIELD, too", w, 1);
    }

    /**
     * GOER 0 goes over the hedge 1 from the second NIGHT on: the way around is WORN then, and HARDER. So in n NIGHTS
     * the hedge is WORN n - 1.
     */
    private static BuriedWithIt late(int use) {
        BuriedWithIt x = made("23.h....", "0002h;0101", "r*(1+k*3+(k=0)*(w>0)*8)");
        x.use(use);
        return x;
    }

    private static void claims() {
        CHECK.promise("30 claims: none such");
        BuriedWithIt x = six("0055");
        for (int f : NO_FIELD) {
            due("claims(" + f + ")", x.claims(f), -1);
        }
        due("no ROW", x.count(13), 0);
        CHECK.promise("30 claims: in how many NIGHTS (0 .. 99)");
        x.sheet(2, 36, 64, 1);
        due("0", x.claims(35), 0);
        row("0", x, 99);
        due("0", x.claims(0), 0);
        row("0", x, 64);
        BuriedWithIt y = made("11h", "");
        y.use(1);
        due("never", y.claims(0), -2);
        y.sheet(2, 1, 1, 0);
        due("1", y.claims(0), 1);
        row("1", y, 1);
        y.sheet(2, 1, 99, 0);
        due("1, WORN more than USE", y.claims(0), 1);
        row("1, WORN more than USE", y, 99);
        due("98", late(97).claims(1), 98);
        BuriedWithIt z = late(98);
        due("99", z.claims(1), 99);
        row("99", z, 98);
        due("100: in none of these", late(99).claims(1), -2);
        due("water: in none", made("11w", "0000w").claims(0), -2);
        due("it goes on from now", ahead(99, 1).claims(1), 99);
    }

    private static BuriedWithIt ahead(int use, int nights) {
        BuriedWithIt x = late(use);
        x.nights(nights);
        return x;
    }

    private static void later() {
        CHECK.promise("31 later: n NIGHTS (0 .. 99)");
        BuriedWithIt x = six("0055");
        for (int n : new int[] {MIN, -1, 100, 101, MAX}) {
            due("later(" + n + ")", x.later(n), -1);
            due("deepest(" + n + ")", x.deepest(n), -1);
        }
        due("no ROW", x.count(13), 0);
        due("later(0)", x.later(0), 6);
        row("later(0)", x, 0, ALL);
        due("later(1)", x.later(1), 6);
        row("later(1)", x, 66, ALL);
        due("later(16)", x.later(16), 6);
        row("later(16)", x, 66 * 16, ALL);
        due("later(99)", x.later(99), 6);
        row("later(99): 99 at most", x, 11 * 99, ALL);
        due("nothing is done", x.count(4) + x.count(10), 0);
        x.sheet(2, 36, 99, 0);
        x.later(99);
        row("all 99", x, 36 * 99, ALL);
        BuriedWithIt none = made("11w", "");
        due("without GOERS", none.later(99), 0);
        row("without GOERS", none, 0, 0);
        due("ahead of the 99th", late(98).later(98), 1);
        due("behind the 99th", late(98).later(99), 2);
        due("behind 99 of 100", late(99).later(99), 1);
        CHECK.promise("33 deepest: n NIGHTS (0 .. 99), of equal ones the first");
        BuriedWithIt y = six("5555");
        due("deepest(0)", y.deepest(0), 0);
        row("deepest(0)", y, 0);
        due("deepest(1)", y.deepest(1), 35);
        row("deepest(1)", y, 6);
        due("deepest(99)", y.deepest(99), 35);
        row("deepest(99)", y, 99);
        y.sheet(2, 35, 99, 0);
        due("of equal ones", y.deepest(99), 0);
        y.sheet(2, 2, 98, 1);
        due("the second", y.deepest(0), 1);
        row("the second", y, 99);
        due("nothing is done", y.count(4), 0);
    }

    private static void alters() {
        CHECK.promise("32 alters: none such");
        BuriedWithIt x = six("0055");
        for (int g : NO_GOER) {
            due("alters(" + g + ")", x.alters(g), -1);
        }
        due("no ROW", x.count(13), 0);
        CHECK.promise("32 alters: (1 .. 99)");
        due("in none", x.alters(5), -2);
        due("none has none", made("11w", "0000").alters(0), -2);
        BuriedWithIt y = made("11.", "0000", "1-w");
        due("1", y.alters(0), 1);
        row("1 (0 without)", y, 0);
        y = made("13.h.", "0002h;0002");
        y.use(1);
        due("1", y.alters(1), 1);
        row("1", y, 2);
        due("2", made("11.", "0000", "2-w").alters(0), 2);
        due("98", late(97).alters(1), 98);
        BuriedWithIt z = late(98);
        due("99", z.alters(1), 99);
        row("99: FROM is GOAL", z, 0);
        due("100: in none", late(99).alters(1), -2);
        due("it goes on from now", ahead(99, 1).alters(1), 99);
        BuriedWithIt w = made("11.", "0000", "99-w");
        due("the 99th", w.alters(0), 99);
        CHECK.promise("32 alters: for the first time");
        due("not the second one", made("11.", "0000", "1-(n=3)").alters(0), 3);
        due("nor back again", made("11.", "0000", "n=0").alters(0), 1);
        due("one that has none", made("11.", "0000", "n=6").alters(0), 6);
    }

    private static void printed() {
        CHECK.promise("34 print: none such, others");
        BuriedWithIt x = six("0055");
        for (int f : NO_FIELD) {
            due("print(" + f + ", 1)", x.print(f, 1), -1);
            due("print(" + f + ", 0)", x.print(f, 0), -1);
        }
        for (int is : new int[] {MIN, -1, 2, MAX}) {
            due("print(0, " + is + ")", x.print(0, is), -1);
        }
        due("no prints", x.count(11), 0);
        due("the last FIELD", x.print(35, 1), 1);
        due("the first FIELD", x.print(0, 1), 2);
        CHECK.promise("34 print: 12");
        for (int many = 3; many <= 12; many++) {
            due("print " + many, x.print(30, 0), many);
        }
        due("a 13th", x.print(30, 0), -1);
        due("a 13th", x.print(30, 1), -1);
        due("all fit", x.fits(), 63);
        CHECK.promise("35 forget: how many there were");
        due("twelve", x.forget(), 12);
        due("none", x.forget(), 0);
        due("room again", x.print(35, 0), 1);
        due("one", x.forget(), 1);
        CHECK.promise("36 fits: who have a PATH");
        due("all without prints", x.fits(), 63);
        row("all without prints", x, 6);
        x.lock(35);
        due("none has a PATH", x.fits(), 0);
        row("none has a PATH", x, 0);
        x.print(30, 0);
        due("none over it, but no PATH", x.fits(), 0);
        due("without GOERS", made(FULL, "").fits(), 0);
        CHECK.promise("36 fits: fits all prints");
        BuriedWithIt y = made("16......", "0000;0001;0002;0003;0004;0005");
        for (int f = 0; f < 6; f++) {
            y.print(f, 1);
            due("over " + f, y.fits(), 63 - ((1 << f) - 1));
            row("over " + f, y, 6 - f);
        }
        y.forget();
        for (int f = 5; f >= 0; f--) {
            y.print(f, 0);
            due("not over " + f, y.fits(), (1 << f) - 1);
        }
        y.forget();
        y.print(0, 1);
        y.print(0, 0);
        due("both can't be", y.fits(), 0);
        y.forget();
        y.print(3, 1);
        y.print(3, 1);
        due("the same twice", y.fits(), 56);
        y.forget();
        y.print(3, 0);
        y.print(3, 0);
        due("the same twice", y.fits(), 7);
        y.forget();
        y.divert(0, 5);
        y.print(2, 0);
        y.print(1, 1);
        due("another print besides", y.fits(), 2);
        BuriedWithIt corner = made("22....", "0011;1001;1000");
        corner.print(0, 1);
        corner.print(3, 1);
        due("the second print does not make the first one void", corner.fits(), 1);
        corner.print(0, 1);
        due("nor does the third", corner.fits(), 1);
        corner.forget();
        corner.print(0, 0);
        corner.print(3, 0);
        due("nobody, likewise", corner.fits(), 0);
        BuriedWithIt none = new BuriedWithIt();
        Checks.say(none, "0000").goers();
        due("a new object has no prints", none.fits(), 1);
    }

    private static void look() {
        CHECK.promise("37 look: -2: none fits");
        BuriedWithIt x = made("16......", "0000;0001;0002;0003;0004;0005");
        due("without GOERS", new BuriedWithIt().look(), -2);
        CHECK.promise("37 look: the fewest are left at most, of equal ones the first");
        due("six", x.look(), 3);
        row("six", x, 3);
        x.print(5, 0);
        due("five: 3 and 2", x.look(), 2);
        row("five", x, 3);
        x.print(3, 0);
        due("three: 2 and 1", x.look(), 1);
        row("three", x, 2);
        x.print(2, 0);
        due("two", x.look(), 1);
        row("two", x, 1);
        x.print(1, 0);
        due("one", x.look(), 0);
        row("one", x, 1);
        x.print(0, 0);
        due("none", x.look(), -2);
        row("the ROW stays", x, 1);
        BuriedWithIt y = six("0055");
        due("all alike", y.look(), 0);
        row("all alike", y, 6);
        BuriedWithIt z = made(FULL, "5454;5455");
        due("the last FIELD", z.look(), 35);
        row("the last FIELD", z, 1);
    }

    public static void main(String[] args) {
        pathThere();
        pathLeast();
        pathAnew();
        blocked();
        detour();
        vital();
        cut();
        frees();
        busiest();
        meets();
        reach();
        better();
        gate();
        claims();
        later();
        alters();
        printed();
        look();
        CHECK.end();
    }
}
