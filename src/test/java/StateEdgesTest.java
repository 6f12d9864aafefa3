/** The boundary cases of what is changed and told: promises 1, 7 to 16, 18 and 44 to 47. */
public final class StateEdgesTest {
    private static final Checks CHECK = new Checks();
    private static final int MIN = Integer.MIN_VALUE;
    private static final int MAX = Integer.MAX_VALUE;
    private static final String FULL = "66" + ".".repeat(36);
    private static final String SIX = "0000;0000;0000;0000;0000;0055hbw";

    private static void due(String what, long got, long want) {
        CHECK.due(what, got, want);
    }

    private static BuriedWithIt say(BuriedWithIt x, String text) {
        return Checks.say(x, text);
    }

    private static BuriedWithIt full() {
        return Checks.made(FULL, SIX);
    }

    private static void newObject() {
        CHECK.promise("1 BuriedWithIt: one open FIELD");
        BuriedWithIt x = new BuriedWithIt();
        due("ROWS", x.count(0), 1);
        due("COLUMNS", x.count(1), 1);
        due("KIND", x.field(0, 0), 0);
        due("WORN", x.field(0, 1), 0);
        due("LOCKED", x.field(0, 2), 0);
        due("GOERS over it", x.field(0, 3), 0);
        CHECK.none("no second FIELD", () -> x.field(1, 0));
        CHECK.promise("1 BuriedWithIt: no GOERS");
        due("GOERS", x.count(2), 0);
        CHECK.none("no GOER", () -> x.goer(0, 0));
        due("hard", x.hard(0, 0), -1);
        CHECK.promise("Terms: at first");
        due("USE", x.use(1), 20);
        due("NIGHT", x.count(4), 0);
        due("prints", x.forget(), 0);
        due("undo", x.undo(), -1);
        due("again(0)", x.again(0) ? 1 : 0, 0);
        due("again(1)", x.again(1) ? 1 : 0, 0);
        CHECK.none("no ROW", () -> x.row(0));
        due("lock", x.lock(0), 1);
        due("nothing else to lock", x.lock(1), -1);
        say(x, "0000h").goers();
        due("THE RULE: none, LOCKED", x.hard(0, 0), 0);
        x.lock(0);
        due("THE RULE: none", x.hard(0, 0), 1);
        x.build(0, 1);
        due("THE RULE: none, KIND 1", x.hard(0, 0), 2);
        x.build(0, 2);
        due("THE RULE: none, no RIGHT", x.hard(0, 0), 0);
    }

    private static void fields() {
        CHECK.promise("7 field: none such, another what");
        BuriedWithIt x = full();
        x.build(35, 3);
        x.lock(35);
        x.lock(0);
        x.sheet(2, 36, 64, 1);
        int[][] want = {{0, 64, 1, 0}, {3, 99, 1, 0}};
        for (int what = 0; what <= 3; what++) {
            due("field(0, " + what + ")", x.field(0, what), want[0][what]);
            due("field(35, " + what + ")", x.field(35, what), want[1][what]);
            for (int f : new int[] {MIN, -1, 36, 37, 64, 64 + 35, MAX}) {
                int w = what;
                CHECK.none("field(" + f + ", " + w + ")", () -> x.field(f, w));
            }
        }
        for (int what : new int[] {MIN, -1, 4, 32, MAX}) {
            CHECK.none("field(0, " + what + ")", () -> x.field(0, what));
            CHECK.none("field(35, " + what + ")", () -> x.field(35, what));
        }
        CHECK.promise("7 field: GOERS whose PATH goes over it now");
        x.lock(0);
        due("five of six", x.field(0, 3), 31);
        x.build(35, 0);
        x.lock(35);
        due("six", x.field(0, 3), 63);
        due("the sixth alone", x.field(35, 3), 32);
        due("none", x.field(35 - 6, 3) + x.field(35 - 1, 3), 32);
    }

    private static void people() {
        CHECK.promise("8 goer: none such, another what");
        BuriedWithIt x = full();
        x.nights(3);
        x.lock(35);
        x.nights(2);
        int[][] want = {{0, 0, 1, 5, 0, 1}, {0, 35, 15, 3, 2, 0}};
        for (int what = 0; what <= 5; what++) {
            due("goer(0, " + what + ")", x.goer(0, what), want[0][what]);
            due("goer(5, " + what + ")", x.goer(5, what), want[1][what]);
            for (int g : new int[] {MIN, -1, 6, 7, 32, MAX}) {
                int w = what;
                CHECK.none("goer(" + g + ", " + w + ")", () -> x.goer(g, w));
            }
        }
        for (int what : new int[] {MIN, -1, 6, MAX}) {
            CHECK.none("goer(0, " + what + ")", () -> x.goer(0, what));
            CHECK.none("goer(5, " + what + ")", () -> x.goer(5, what));
        }
        BuriedWithIt one = Checks.made("11.", "0000");
        due("GOAL of the one", one.goer(0, 1), 0);
        CHECK.none("no second GOER", () -> one.goer(1, 0));
        CHECK.promise("9 hard: none such; 0: it can't go there");
        due("it can't", x.hard(5, 35), 0);
        due("it can", x.hard(5, 34), 1);
        int[][] none = {{MIN, 0}, {-1, 0}, {6, 0}, {MAX, 0}, {0, MIN}, {0, -1}, {0, 36}, {0, MAX}, {6, 36}, {-1, -1}};
        for (int[] n : none) {
            due("hard(" + n[0] + ", " + n[1] + ")", x.hard(n[0], n[1]), -1);
        }
    }

    /** A hedge that GOER 0 goes over each NIGHT. */
    private static BuriedWithIt hedge() {
        return Checks.made("13.h.", "0002h");
    }

    private static void use() {
        CHECK.promise("10 use: (1 .. 99)");
        BuriedWithIt x = hedge();
        due("use(1)", x.use(1), 20);
        for (int v : new int[] {MIN, -1, 0, 100, 101, MAX}) {
            due("use(" + v + ")", x.use(v), -1);
            due("USE stays", x.count(3), 1);
        }
        due("use(99)", x.use(99), 1);
        due("use(99) again", x.use(99), 99);
        due("USE", x.count(3), 99);
        CHECK.promise("Terms: WORN USE or more is of KIND 0");
        for (int v : new int[] {1, 2, 20, 98, 99}) {
            BuriedWithIt y = hedge();
            y.use(v);
            y.nights((v - 1) / 2);
            y.nights(v - 1 - (v - 1) / 2);
            due("a NIGHT ahead of USE " + v, y.field(1, 0), 1);
            due("WORN", y.field(1, 1), v - 1);
            y.nights(1);
            due("by USE " + v, y.field(1, 0), 0);
            CHECK.row("by USE " + v, y, 0, 1);
            y.nights(1);
            CHECK.row("it is open once", y, 0, 0);
        }
        BuriedWithIt z = hedge();
        z.sheet(2, 3, 50, 0);
        z.use(50);
        due("WORN USE, without a NIGHT", z.field(1, 0), 1);
        z.use(49);
        z.nights(1);
        due("WORN more than USE", z.field(1, 0), 0);
    }

    private static void sheetKinds() {
        CHECK.promise("11 sheet: another kind, n above 36 (these first)");
        BuriedWithIt x = full();
        x.sheet(2, 36, 1, 0);
        for (int kind : new int[] {MIN, -1, 4, 5, MAX}) {
            for (int n : new int[] {MIN, -1, 0, 36, 37, MAX}) {
                due("sheet(" + kind + ", " + n + ", 5, 5)", x.sheet(kind, n, 5, 5), -1);
            }
        }
        for (int kind = 0; kind <= 3; kind++) {
            due("n 37", x.sheet(kind, 37, 5, 5), -1);
            due("n above", x.sheet(kind, MAX, 5, 5), -1);
        }
        CHECK.promise("11 sheet: -2: n below 0 (of kinds 0 .. 2; nothing changes)");
        for (int kind = 0; kind <= 2; kind++) {
            due("n -1", x.sheet(kind, -1, 5, 5), -2);
            due("n below", x.sheet(kind, MIN, 5, 5), -2);
        }
        due("nothing changed", x.count(10), 36);
        CHECK.promise("11 sheet: -3: missing (all 0)");
        for (int n : new int[] {36, 1, 0, -1, MIN}) {
            x.sheet(2, 36, 1, 0);
            due("missing, n " + n, x.sheet(3, n, 5, 5), -3);
            due("all 0", x.count(10), 0);
        }
        CHECK.promise("11 sheet: those behind it have 0: the sum of all");
        for (int n : new int[] {0, 1, 35, 36}) {
            x.sheet(2, 36, 7, 0);
            due("n " + n, x.sheet(2, n, 3, 0), 3 * n);
            due("WORN of all", x.count(10), 3 * n);
        }
        due("the full case", x.sheet(2, 36, 99, 0), 36 * 99);
        BuriedWithIt few = Checks.made("13...", "");
        for (int n : new int[] {2, 3, 4, 36}) {
            due("n " + n + " of 3 FIELDS", few.sheet(2, n, 5, 5), n == 2 ? 15 : 30);
        }
    }

    private static void told(int kind, int entry, int want) {
        BuriedWithIt x = Checks.made("11.", "");
        due("sheet(" + kind + ", 1, " + entry + ", 0)", x.sheet(kind, 1, entry, 0), want);
        due("WORN", x.field(0, 1), want);
        BuriedWithIt y = Checks.made("12..", "");
        y.sheet(kind, 2, 0, entry);
        due("as a step", y.field(1, 1), want);
    }

    private static void sheetEntries() {
        CHECK.promise("11 sheet: put to 0 .. 99");
        int[] entries = {-2, -1, 0, 1, 98, 99, 100, 101};
        int[] want = {0, 0, 0, 1, 98, 99, 99, 99};
        for (int kind = 0; kind <= 2; kind++) {
            for (int i = 0; i < entries.length; i++) {
                told(kind, entries[i], want[i]);
            }
        }
        CHECK.promise("11 sheet: of bytes the lowest bits, with their sign");
        int[] bytes = {127, 128, 129, 255, 256, 257, 256 + 98, 256 + 127, 256 + 128, -128, -129, -256, -255, MIN, MIN + 5,
            MAX, MAX - 255, 65536 + 7, -250};
        int[] asBytes = {99, 0, 0, 0, 0, 1, 98, 99, 0, 0, 99, 0, 1, 0, 5, 0, 0, 7, 6};
        for (int i = 0; i < bytes.length; i++) {
            told(0, bytes[i], asBytes[i]);
        }
        told(0, MAX - 254, 1);
        CHECK.promise("11 sheet: of shorts the lowest bits, with their sign");
        int[] shorts = {127, 128, 32767, 32768, 65535, 65536, 65537, 65536 + 98, 98304, -32768, -32769, -65536, -65535,
            MIN, MIN + 5, MAX, MAX - 65534};
        int[] asShorts = {99, 99, 99, 0, 0, 0, 1, 98, 0, 0, 99, 0, 1, 0, 5, 0, 1};
        for (int i = 0; i < shorts.length; i++) {
            told(1, shorts[i], asShorts[i]);
        }
        CHECK.promise("11 sheet: ints as they are, ends of int");
        told(2, MIN, 0);
        told(2, MIN + 5, 0);
        told(2, MAX, 99);
        told(2, 256, 99);
        told(2, 65536, 99);
        CHECK.promise("11 sheet: f, f + step, .. wrap around");
        BuriedWithIt x = Checks.made("16......", "");
        x.sheet(2, 6, MAX - 1, 1);
        worn("over the greatest", x, 99, 99, 0, 0, 0, 0);
        x.sheet(2, 6, MIN + 1, -1);
        worn("under the least", x, 0, 0, 99, 99, 99, 99);
        x.sheet(2, 6, 7, MIN);
        worn("by the least", x, 7, 0, 7, 0, 7, 0);
        x.sheet(2, 6, 7, 1 << 30);
        worn("a product that wraps", x, 7, 99, 0, 0, 7, 99);
        x.sheet(2, 6, 5, MAX);
        worn("by the greatest", x, 5, 0, 3, 0, 1, 0);
        x.sheet(0, 6, 5, 128);
        worn("bytes", x, 5, 0, 5, 0, 5, 0);
        x.sheet(1, 6, 5, 32768);
        worn("shorts", x, 5, 0, 5, 0, 5, 0);
        x.sheet(0, 6, 5, MIN);
        worn("bytes by the least", x, 5, 5, 5, 5, 5, 5);
        x.sheet(1, 6, 5, MIN);
        worn("shorts by the least", x, 5, 5, 5, 5, 5, 5);
    }

    private static void worn(String what, BuriedWithIt x, int... want) {
        for (int f = 0; f < want.length; f++) {
            due(what + ": WORN of " + f, x.field(f, 1), want[f]);
        }
    }

    private static void nights() {
        CHECK.promise("12 nights: (0 .. 60), refused: another n");
        BuriedWithIt x = hedge();
        for (int n : new int[] {MIN, -1, 61, MAX}) {
            due("nights(" + n + ")", x.nights(n), -1);
            due("NIGHT", x.count(4), 0);
            due("no ROW", x.count(13), 0);
        }
        due("nights(0)", x.nights(0), 0);
        CHECK.row("nights(0)", x, 0, 0);
        due("nights(60)", x.nights(60), 60);
        CHECK.row("nights(60)", x, 0, 1);
        due("NIGHT", x.count(4), 60);
        due("nights(1)", x.nights(1), 1);
        due("NIGHT", x.count(4), 61);
        BuriedWithIt none = Checks.made("11.", "");
        due("without GOERS", none.nights(60), 0);
        CHECK.row("without GOERS", none, 0, 0);
        due("NIGHT", none.count(4), 60);
        CHECK.promise("12 nights: all together; how often they MISSED");
        BuriedWithIt six = full();
        due("six a NIGHT", six.nights(60), 360);
        CHECK.row("six a NIGHT", six, 0, 0);
        six.lock(0);
        due("none", six.nights(60), 0);
        CHECK.row("none", six, 360, 0);
        CHECK.promise("12 nights: in these alone");
        BuriedWithIt two = Checks.made("13.h.", "0002h;0002");
        two.use(2);
        due("nights(2)", two.nights(2), 2);
        CHECK.row("nights(2)", two, 2, 1);
        due("nights(3)", two.nights(3), 6);
        CHECK.row("nights(3)", two, 0, 0);
        due("nights(0)", two.nights(0), 0);
        CHECK.row("nights(0)", two, 0, 0);
        CHECK.promise("Terms: CAME 999 at most, MISSED 999 at most");
        BuriedWithIt y = Checks.made("13.w.", "0000;0002");
        for (int i = 0; i < 16; i++) {
            y.nights(60);
        }
        y.nights(38);
        due("CAME", y.goer(0, 3), 998);
        due("MISSED", y.goer(1, 4), 998);
        due("once more", y.nights(1), 1);
        due("CAME", y.goer(0, 3), 999);
        due("MISSED", y.goer(1, 4), 999);
        due("and once more", y.nights(1), 1);
        due("CAME", y.goer(0, 3), 999);
        due("MISSED", y.goer(1, 4), 999);
        due("the others", y.goer(0, 4) + y.goer(1, 3), 0);
        due("NIGHT goes on", y.count(4), 1000);
    }

    private static void wear() {
        CHECK.promise("Terms: WORN once more for each PATH over it, 99 at most");
        for (int start = 91; start <= 99; start++) {
            BuriedWithIt x = full();
            x.sheet(2, 1, start, 0);
            x.nights(1);
            due("six more than " + start, x.field(0, 1), Math.min(99, start + 6));
        }
        BuriedWithIt x = full();
        x.nights(16);
        due("96", x.field(0, 1), 96);
        x.nights(1);
        due("99", x.field(0, 1), 99);
        x.nights(60);
        due("99 still", x.field(0, 1), 99);
        CHECK.promise("Terms: of KIND 1 or 2 that is WORN USE or more");
        BuriedWithIt y = Checks.made("22.hbw", "");
        y.sheet(2, 4, 19, 0);
        y.nights(1);
        CHECK.row("a little less", y, 0, 0);
        y.sheet(2, 4, 20, 0);
        due("no GOER is needed", y.nights(1), 0);
        CHECK.row("a hedge and a house", y, 0, 2);
        int[] kinds = {0, 0, 0, 3};
        for (int f = 0; f < 4; f++) {
            due("KIND of " + f, y.field(f, 0), kinds[f]);
        }
        due("still WORN", y.count(10), 80);
        y.sheet(2, 4, 99, 0);
        y.nights(60);
        due("water never", y.field(3, 0), 3);
        CHECK.row("nothing more", y, 0, 0);
        CHECK.promise("Terms: all as it was ahead of this NIGHT");
        // What GOER 0 opens by USE tonight is no way for GOER 1 yet.
        BuriedWithIt z = Checks.made("13.h.", "0002h;0002");
        z.use(1);
        due("one came", z.nights(1), 1);
        CHECK.row("one MISSED", z, 1, 1);
        due("both come then", z.nights(1), 2);
    }

    private static void locks() {
        CHECK.promise("13 lock: -2: eight others are");
        BuriedWithIt x = full();
        for (int f = 28; f < 36; f++) {
            due("lock(" + f + ")", x.lock(f), f - 27);
        }
        for (int f = 0; f < 28; f++) {
            due("a ninth, " + f, x.lock(f), -2);
        }
        due("eight stay", x.count(5), 8);
        due("what can be undone", x.count(12), 8);
        due("not any more", x.lock(35), 7);
        due("another eighth", x.lock(0), 8);
        due("not the first one", x.lock(35), -2);
        CHECK.promise("13 lock: none such");
        for (int f : new int[] {MIN, -1, 36, 64, MAX}) {
            due("lock(" + f + ") with eight", x.lock(f), -1);
        }
        x.lock(0);
        for (int f : new int[] {MIN, -1, 36, 64, 64 + 35, MAX}) {
            due("lock(" + f + ") with seven", x.lock(f), -1);
        }
        due("the last FIELD", x.lock(35), 8);
        for (int left = 7; left >= 0; left--) {
            due("not any more", x.lock(35 - left), left);
        }
    }

    private static void builds() {
        CHECK.promise("14 build: another KIND (0 .. 3), others");
        BuriedWithIt x = full();
        x.sheet(2, 36, 99, 0);
        for (int kind : new int[] {MIN, -1, 4, MAX}) {
            due("build(0, " + kind + ")", x.build(0, kind), -1);
            due("build(35, " + kind + ")", x.build(35, kind), -1);
        }
        for (int f : new int[] {MIN, -1, 36, MAX}) {
            for (int kind = 0; kind <= 3; kind++) {
                due("build(" + f + ", " + kind + ")", x.build(f, kind), -1);
            }
        }
        due("nothing is done", x.count(12), 0);
        due("WORN stays", x.count(10), 36 * 99);
        int[] kinds = {3, 0, 1, 2, 3};
        for (int i = 1; i < kinds.length; i++) {
            x.build(0, kinds[i - 1]);
            due("KIND that it was", x.build(0, kinds[i]), kinds[i - 1]);
            due("KIND that it is", x.field(0, 0), kinds[i]);
        }
        CHECK.promise("14 build: not WORN");
        due("not WORN", x.field(0, 1), 0);
        due("the others", x.count(10), 35 * 99);
        due("the last FIELD", x.build(35, 1), 0);
        due("not WORN", x.field(35, 1), 0);
        x.lock(35);
        x.build(35, 2);
        due("LOCKED stays", x.field(35, 2), 1);
    }

    private static void grants() {
        CHECK.promise("15 grant: KIND (1 .. 3), others");
        BuriedWithIt x = full();
        for (int kind : new int[] {MIN, -1, 0, 4, 32, 33, MAX}) {
            due("grant(0, " + kind + ")", x.grant(0, kind), -1);
        }
        for (int g : new int[] {MIN, -1, 6, MAX}) {
            for (int kind = 1; kind <= 3; kind++) {
                due("grant(" + g + ", " + kind + ")", x.grant(g, kind), -1);
            }
        }
        due("nothing is done", x.count(12), 0);
        int[] gets = {3, 7, 15};
        int[] loses = {13, 9, 1};
        for (int kind = 1; kind <= 3; kind++) {
            due("gets", x.grant(0, kind), gets[kind - 1]);
        }
        for (int kind = 1; kind <= 3; kind++) {
            due("loses", x.grant(5, kind), loses[kind - 1]);
        }
        due("RIGHTS", x.goer(0, 2) + 16 * x.goer(5, 2), 31);
        due("the others", x.goer(1, 2) + x.goer(4, 2), 2);
        CHECK.promise("16 divert: -2: the same; none such");
        for (int f : new int[] {MIN, -1, 36, MAX}) {
            due("divert(5, " + f + ")", x.divert(5, f), -1);
        }
        for (int g : new int[] {MIN, -1, 6, MAX}) {
            due("divert(" + g + ", 0)", x.divert(g, 0), -1);
            due("divert(" + g + ", 35)", x.divert(g, 35), -1);
        }
        due("the same", x.divert(5, 35), -2);
        due("the same", x.divert(0, 0), -2);
        due("nothing is done", x.count(12), 6);
        due("divert", x.divert(5, 0), 35);
        due("divert to FROM: the same then", x.divert(5, 0), -2);
        due("divert", x.divert(5, 35), 0);
        due("divert", x.divert(0, 35), 0);
    }

    private static void undoes() {
        CHECK.promise("18 undo: of 12 that are kept, the latest ones");
        BuriedWithIt x = full();
        due("none", x.undo(), -1);
        for (int i = 1; i <= 12; i++) {
            x.nights(1);
            due("so many", x.count(12), i);
        }
        for (int left = 11; left >= 0; left--) {
            due("undo", x.undo(), left);
        }
        due("the 12th", x.count(4), 0);
        due("none", x.undo(), -1);
        for (int i = 1; i <= 13; i++) {
            x.nights(1);
        }
        due("twelve", x.count(12), 12);
        for (int left = 11; left >= 0; left--) {
            due("undo", x.undo(), left);
        }
        due("the first of 13 stays", x.count(4), 1);
        due("none", x.undo(), -1);
        for (int i = 0; i < 40; i++) {
            x.nights(1);
            x.lock(i % 36);
            x.undo();
        }
        due("the 12th is undone", x.count(12), 11);
        due("undone and done", x.count(4) + 100 * x.count(5), 41);
        CHECK.promise("18 undo: such as were done; nights() of 1 and more, year() of which one ACT was done");
        BuriedWithIt y = full();
        y.nights(0);
        due("nights(0)", y.count(12), 0);
        y.nights(1);
        due("nights(1)", y.count(12), 1);
        say(y, "").year();
        due("an empty year()", y.count(12), 1);
        say(y, "g61").year();
        due("year() of which none was done", y.count(12), 1);
        say(y, "n1x").year();
        due("year() that can't be read", y.count(12), 1);
        say(y, "n0g61").year();
        due("year() of which one was done", y.count(12), 2);
        say(y, "n1l00b001g01d055").year();
        due("as one", y.count(12), 3);
        due("undo", y.undo(), 2);
        due("all five are", y.count(4) + y.count(5) + y.count(7) + y.goer(0, 2) + y.goer(0, 1), 2);
        due("WORN and CAME", y.count(10) + y.goer(0, 3), 5 + 11 + 1);
    }

    private static void undoOfZero() {
        CHECK.promise("18 undo: acts that answer 0 are done, too");
        BuriedWithIt x = Checks.made("12..", "0000");
        x.lock(1);
        due("none is LOCKED then", x.lock(1), 0);
        due("it was KIND 0", x.build(1, 2), 0);
        due("it was FIELD 0", x.divert(0, 1), 0);
        x.lock(0);
        due("none came", x.nights(1), 0);
        due("five and one", x.count(12), 6);
        x.undo();
        x.undo();
        due("GOAL", x.goer(0, 1), 1);
        x.undo();
        due("GOAL", x.goer(0, 1), 0);
        x.undo();
        due("KIND", x.field(1, 0), 0);
        x.undo();
        due("LOCKED", x.count(5), 1);
        CHECK.promise("18 undo: as ahead of it, not of an earlier one");
        for (int act = 0; act < 6; act++) {
            BuriedWithIt y = Checks.made("13.h.", "0002h");
            y.nights(3);
            switch (act) {
                case 0 -> y.lock(2);
                case 1 -> y.build(1, 2);
                case 2 -> y.grant(0, 3);
                case 3 -> y.divert(0, 0);
                case 4 -> say(y, "n1").year();
                default -> y.nights(1);
            }
            due("undo " + act, y.undo(), 1);
            due("NIGHT", y.count(4), 3);
            due("CAME", y.goer(0, 3), 3);
            due("WORN", y.count(10), 9);
            due("LOCKED", y.count(5), 0);
            due("KIND", y.field(1, 0), 1);
            due("RIGHTS", y.goer(0, 2), 3);
            due("GOAL", y.goer(0, 1), 2);
        }
    }

    private static void undoForgets() {
        CHECK.promise("18 undo: land(), goers() and again() forget them");
        BuriedWithIt x = Checks.made("11.", "0000");
        x.nights(1);
        x.keep(0);
        x.nights(1);
        due("two", x.count(12), 2);
        CHECK.promise("18 undo: if they are not refused");
        say(x, "x").land();
        say(x, "x").goers();
        x.again(1);
        x.again(2);
        due("two still", x.count(12), 2);
        CHECK.promise("18 undo: an empty goers() does not");
        say(x, "").goers();
        due("two still", x.count(12), 2);
        CHECK.promise("18 undo: land(), goers() and again() forget them, each");
        x.again(0);
        due("again", x.count(12) + x.count(4), 1);
        due("undo", x.undo(), -1);
        x.nights(1);
        say(x, "0000").goers();
        due("goers", x.undo(), -1);
        x.nights(1);
        say(x, "11.").land();
        due("land", x.undo(), -1);
        due("NIGHT", x.count(4), 0);
        CHECK.promise("18 undo: KINDS, WORN, LOCKED, NIGHT, all of GOERS are as ahead of it");
        BuriedWithIt y = Checks.made("13.h.", "0002h;0002");
        y.use(1);
        y.nights(1);
        due("undo", y.undo(), 0);
        due("KIND", y.field(1, 0), 1);
        due("WORN", y.count(10), 0);
        due("NIGHT", y.count(4), 0);
        due("CAME", y.goer(0, 3), 0);
        due("MISSED", y.goer(1, 4), 0);
        y.lock(2);
        y.undo();
        due("LOCKED", y.count(5), 0);
        y.grant(1, 1);
        y.undo();
        due("RIGHTS", y.goer(1, 2), 1);
        y.divert(1, 0);
        y.undo();
        due("GOAL", y.goer(1, 1), 2);
        y.sheet(2, 3, 9, 0);
        y.build(1, 2);
        y.undo();
        due("KIND and WORN", y.field(1, 0) + 10 * y.field(1, 1), 91);
    }

    private static void keeps() {
        CHECK.promise("44 keep: a number 0 .. 1, others");
        BuriedWithIt x = full();
        for (int i : new int[] {MIN, -1, 2, 3, MAX}) {
            due("keep(" + i + ")", x.keep(i) ? 1 : 0, 0);
            due("again(" + i + ")", x.again(i) ? 1 : 0, 0);
        }
        CHECK.promise("45 again: nothing kept");
        due("again(0)", x.again(0) ? 1 : 0, 0);
        due("again(1)", x.again(1) ? 1 : 0, 0);
        due("keep(1)", x.keep(1) ? 1 : 0, 1);
        due("nothing under 0", x.again(0) ? 1 : 0, 0);
        x.nights(2);
        due("keep(0)", x.keep(0) ? 1 : 0, 1);
        x.nights(3);
        due("again(1)", x.again(1) ? 1 : 0, 1);
        due("as it was kept", x.count(4), 0);
        due("again(0)", x.again(0) ? 1 : 0, 1);
        due("as it was kept", x.count(4), 2);
        due("again(0) once more", x.again(0) ? 1 : 0, 1);
        due("keep(0) anew", x.keep(1) ? 1 : 0, 1);
        x.nights(1);
        x.again(1);
        due("the latest under 1", x.count(4), 2);
        due("keep() can't be undone", x.count(12), 0);
        CHECK.promise("45 again: LAND or GOERS came since");
        say(x, "").goers();
        due("an empty one came", x.again(0) ? 1 : 0, 1);
        say(x, "0000").goers();
        due("there was no room", x.again(0) ? 1 : 0, 1);
        say(x, "7").land();
        due("LAND was refused", x.again(0) ? 1 : 0, 1);
        say(x, FULL).land();
        due("LAND came", x.again(0) ? 1 : 0, 0);
        due("LAND came", x.again(1) ? 1 : 0, 0);
        x.keep(0);
        x.keep(1);
        say(x, "0000").goers();
        due("GOERS came", x.again(0) ? 1 : 0, 0);
        due("GOERS came", x.again(1) ? 1 : 0, 0);
        due("GOERS stay", x.count(2), 1);
        CHECK.promise("44 keep: what undo() brings back, all of it");
        BuriedWithIt y = Checks.made("13.h.", "0002h;0002");
        y.nights(1);
        y.keep(0);
        y.use(2);
        say(y, "n1l02b000g12d100").year();
        y.again(0);
        due("KIND", y.field(1, 0), 1);
        due("WORN", y.field(1, 1), 1);
        due("LOCKED", y.field(2, 2), 0);
        due("NIGHT", y.count(4), 1);
        due("CAME", y.goer(0, 3), 1);
        due("MISSED", y.goer(1, 4), 1);
        due("RIGHTS", y.goer(1, 2), 1);
        due("GOAL", y.goer(1, 1), 2);
        due("USE is not kept", y.count(3), 2);
    }

    private static void counts() {
        CHECK.promise("46 count: the empty case");
        BuriedWithIt x = new BuriedWithIt();
        int[] empty = {1, 1, 0, 20, 0, 0, 1, 0, 0, 0, 0, 0, 0, 0, 0};
        for (int what = 0; what < empty.length; what++) {
            due("count(" + what + ")", x.count(what), empty[what]);
        }
        CHECK.promise("46 count: another what");
        for (int what : new int[] {MIN, -1, 15, 16, MAX}) {
            due("count(" + what + ")", x.count(what), -1);
        }
        CHECK.promise("46 count: the full case");
        BuriedWithIt y = Checks.made("66" + "w".repeat(12) + "b".repeat(9) + "h".repeat(8) + ".".repeat(7), SIX);
        y.use(99);
        for (int f = 0; f < 8; f++) {
            y.lock(f);
        }
        for (int i = 0; i < 12; i++) {
            y.print(i, 1);
            y.nights(60);
        }
        y.sheet(2, 36, 99, 0);
        say(y, "x".repeat(80));
        int[] full = {6, 6, 6, 99, 720, 8, 7, 8, 9, 12, 3564, 12, 12, 2, 80};
        for (int what = 0; what < full.length; what++) {
            due("count(" + what + ")", y.count(what), full[what]);
        }
    }

    private interface Telling {
        void ask(BuriedWithIt x);
    }

    private static void tells(String what, int numbers, Telling call) {
        BuriedWithIt x = Checks.made("33....h.b.w", "0012;0021h;2200");
        due(what + " on a new ROW", told(x, call), numbers);
        x.path(1);
        due("a ROW of four", x.count(13), 4);
        due(what + " after four", told(x, call), numbers);
        due(what + " once more", told(x, call), numbers);
    }

    private static int told(BuriedWithIt x, Telling call) {
        call.ask(x);
        return x.count(13);
    }

    private static void rowAnew() {
        CHECK.promise("Terms, ROW: numbers told last");
        tells("nights", 2, x -> x.nights(1));
        tells("nights(0)", 2, x -> x.nights(0));
        tells("year", 2, x -> say(x, "n1").year());
        tells("an empty year", 2, x -> say(x, "").year());
        tells("path", 4, x -> x.path(0));
        tells("blocked", 2, BuriedWithIt::blocked);
        tells("vital", 1, x -> x.vital(0));
        tells("busiest", 1, BuriedWithIt::busiest);
        tells("meets", 2, x -> x.meets(0, 1));
        tells("reach", 2, x -> x.reach(2));
        tells("better", 1, x -> x.better(2));
        tells("gate", 1, BuriedWithIt::gate);
        tells("claims", 1, x -> x.claims(4));
        tells("later", 2, x -> x.later(9));
        tells("deepest", 1, x -> x.deepest(9));
        tells("fits", 1, BuriedWithIt::fits);
        tells("look", 1, BuriedWithIt::look);
        tells("gates", 2, x -> x.gates(9));
        tells("goes", 2, x -> x.goes(0, 1, 5));
        tells("crowd", 2, BuriedWithIt::crowd);
        tells("rests", 2, x -> x.rests(9));
        tells("law", 2, x -> say(x, "1").law());
        tells("years", 2, x -> x.years(3, 9));
        BuriedWithIt x = Checks.made("13.h.", "0002h;0002");
        x.use(1);
        x.path(0);
        due("alters", told(x, y -> y.alters(1)), 1);
        due("alters once more", told(x, y -> y.alters(1)), 1);
        x.lock(0);
        x.divert(0, 1);
        x.divert(1, 2);
        x.path(0);
        x.build(1, 0);
        x.path(1);
        due("frees", told(x, BuriedWithIt::frees), 1);
        due("frees once more", told(x, BuriedWithIt::frees), 1);
        due("gates(0) tells nothing", told(x, y -> y.gates(0)), 0);
        CHECK.promise("Terms, ROW: calls that do not say so leave it");
        x.gates(9);
        Telling[] silent = {y -> y.lock(2), y -> y.build(2, 1), y -> y.grant(0, 2), y -> y.divert(0, 2), y -> y.use(9),
            y -> y.sheet(2, 3, 1, 1), y -> y.print(0, 1), BuriedWithIt::forget, y -> y.keep(0), y -> y.again(0),
            y -> y.hard(0, 0), y -> y.field(0, 3), y -> y.goer(0, 5), y -> y.detour(0, 1), y -> y.cut(0),
            BuriedWithIt::undo, y -> y.count(13), y -> y.sign(0), y -> y.end(0), y -> say(y, "1").rule(),
            y -> say(y, "0000").goers()};
        for (int i = 0; i < silent.length; i++) {
            due("silent call " + i, told(x, silent[i]), 2);
        }
    }

    private static void rows() {
        CHECK.promise("47 row: none such");
        BuriedWithIt x = new BuriedWithIt();
        for (int i : new int[] {MIN, -1, 0, 1, MAX}) {
            CHECK.none("row(" + i + ") of none", () -> x.row(i));
        }
        x.busiest();
        due("row(0) of 1", x.row(0), 0);
        for (int i : new int[] {MIN, -1, 1, 2, 36, MAX}) {
            CHECK.none("row(" + i + ") of 1", () -> x.row(i));
        }
        x.gates(0);
        CHECK.none("row(0) of a ROW that is empty again", () -> x.row(0));
        BuriedWithIt y = Checks.made("16......", "0005");
        y.path(0);
        for (int i = 0; i < 6; i++) {
            due("row(" + i + ") of 6", y.row(i), i);
        }
        CHECK.none("row(6) of 6", () -> y.row(6));
        y.blocked();
        CHECK.none("row(2) of 2, six ahead", () -> y.row(2));
        due("row(1) of 2", y.row(1), 5);
    }

    public static void main(String[] args) {
        newObject();
        fields();
        people();
        use();
        sheetKinds();
        sheetEntries();
        nights();
        wear();
        locks();
        builds();
        grants();
        undoes();
        undoOfZero();
        undoForgets();
        keeps();
        counts();
        rows();
        rowAnew();
        CHECK.end();
    }
}
