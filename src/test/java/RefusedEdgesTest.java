import java.util.function.Supplier;
import java.util.function.ToLongFunction;

/** Each refused call with what it leaves as it was, each answer of -2 likewise, and that questions change nothing. */
public final class RefusedEdgesTest {
    private static final Checks CHECK = new Checks();
    private static final Twins TWINS = new Twins(CHECK);
    private static final int MIN = Integer.MIN_VALUE;
    private static final int MAX = Integer.MAX_VALUE;
    private static final String WAITING = "24.hbw..hh";

    /** Nothing of it is as at first: so what a call spoils is seen. GOER 1 has a PATH, GOER 2 has none. */
    private static BuriedWithIt busy() {
        BuriedWithIt x = Checks.made("33....h.b.w", "0012;0021h;2200");
        Checks.say(x, "r*(1-o)*(2+k)").rule();
        x.use(33);
        x.keep(0);
        x.nights(2);
        x.lock(3);
        x.grant(0, 2);
        x.keep(1);
        x.divert(0, 2);
        x.build(6, 1);
        Checks.say(x, "n1g21").year();
        x.print(0, 1);
        x.print(4, 1);
        x.path(1);
        return Checks.say(x, WAITING);
    }

    /** All FIELDS but the middle are LOCKED. */
    private static BuriedWithIt eightLocked() {
        BuriedWithIt x = busy();
        for (int f = 0; f < 9; f++) {
            if (f != 3 && f != 4) {
                x.lock(f);
            }
        }
        return x;
    }

    private static BuriedWithIt withText(int signs) {
        return Checks.say(busy(), WAITING + "x".repeat(signs - WAITING.length()));
    }

    private static BuriedWithIt twelvePrints() {
        BuriedWithIt x = busy();
        for (int i = 3; i <= 12; i++) {
            x.print(4, 1);
        }
        return x;
    }

    private static BuriedWithIt nothingDone() {
        BuriedWithIt x = Checks.made("33....h.b.w", "0012;0021h;2200");
        x.path(0);
        return Checks.say(x, WAITING);
    }

    private static BuriedWithIt withoutGoers() {
        BuriedWithIt x = Checks.made("22..h.", "");
        x.nights(1);
        x.gates(3);
        return Checks.say(x, WAITING);
    }

    private static void refused(String what, ToLongFunction<BuriedWithIt> call, long want) {
        TWINS.leaves(what, RefusedEdgesTest::busy, call, want);
    }

    private static void refused(String what, Supplier<BuriedWithIt> maker, ToLongFunction<BuriedWithIt> call,
            long want) {
        TWINS.leaves(what, maker, call, want);
    }

    private static void texts() {
        CHECK.promise("2 sign");
        for (int signs = 77; signs <= 80; signs++) {
            int many = signs;
            for (int v : new int[] {MIN, -1, 0, MAX}) {
                refused("sign behind " + signs, () -> withText(many), x -> x.sign(v), -1);
            }
        }
        CHECK.promise("3 end");
        for (int n : new int[] {MIN, -1, WAITING.length() + 1, 80, 81, MAX}) {
            refused("end(" + n + ")", x -> x.end(n) ? 1 : 0, 0);
        }
    }

    private static void readers() {
        reader("4 land", "33.........x", BuriedWithIt::land, -12);
        reader("4 land", "22...", BuriedWithIt::land, -6);
        reader("4 land", "72", BuriedWithIt::land, -1);
        reader("4 land", "", BuriedWithIt::land, -1);
        reader("5 goers", "0000;0000;0000x", BuriedWithIt::goers, -15);
        reader("5 goers", "0000;0000;0000;0000", BuriedWithIt::goers, -16);
        reader("5 goers", "0000;0000;0030", BuriedWithIt::goers, -13);
        reader("5 goers", "0000;", BuriedWithIt::goers, -6);
        reader("6 rule", "1+", BuriedWithIt::rule, -3);
        reader("6 rule", "7*x", BuriedWithIt::rule, -3);
        reader("6 rule", "1+".repeat(20) + "1", BuriedWithIt::rule, -41);
        reader("17 year", "n1l00b001x", BuriedWithIt::year, -10);
        reader("17 year", "n1l00b00", BuriedWithIt::year, -9);
        reader("17 year", "n1l" + "00l".repeat(19) + "00", BuriedWithIt::year, -61);
        reader("42 law", "1+", BuriedWithIt::law, -10002);
        reader("42 law", "-".repeat(40) + "1", BuriedWithIt::law, -10040);
        CHECK.promise("5 goers: an empty one: nothing");
        TWINS.leavesButText("goers", RefusedEdgesTest::busy, "", BuriedWithIt::goers, 0);
        CHECK.promise("17 year: an empty one: nothing");
        TWINS.leavesButTextAndRow("year", RefusedEdgesTest::busy, "", BuriedWithIt::year, 0);
        CHECK.promise("17 year: none could be done");
        TWINS.leavesButTextAndRow("year", RefusedEdgesTest::busy, "l33n1", BuriedWithIt::year, 0);
        TWINS.leavesButTextAndRow("year", RefusedEdgesTest::busy, "g31n1", BuriedWithIt::year, 0);
        TWINS.leavesButTextAndRow("year", RefusedEdgesTest::busy, "d002n1", BuriedWithIt::year, 0);
        TWINS.leavesButTextAndRow("year", RefusedEdgesTest::busy, "b031n1", BuriedWithIt::year, 0);
        CHECK.promise("42 law: a question");
        TWINS.leavesButTextAndRow("law", RefusedEdgesTest::busy, "1", BuriedWithIt::law, 1);
    }

    private static void reader(String promise, String text, ToLongFunction<BuriedWithIt> call, long want) {
        CHECK.promise(promise);
        TWINS.leavesButText(promise.substring(2) + " " + text, RefusedEdgesTest::busy, text, call, want);
    }

    private static void pieces() {
        for (int f : new int[] {MIN, -1, 9, MAX}) {
            CHECK.promise("7 field");
            refused("field(" + f + ", 0)", x -> x.field(f, 0), Twins.THROWN);
            refused("field(" + f + ", 3)", x -> x.field(f, 3), Twins.THROWN);
            CHECK.promise("9 hard");
            refused("hard(0, " + f + ")", x -> x.hard(0, f), -1);
            CHECK.promise("13 lock");
            refused("lock(" + f + ")", x -> x.lock(f), -1);
            refused("lock(" + f + ") with eight", RefusedEdgesTest::eightLocked, x -> x.lock(f), -1);
            CHECK.promise("14 build");
            refused("build(" + f + ", 0)", x -> x.build(f, 0), -1);
            CHECK.promise("16 divert");
            refused("divert(0, " + f + ")", x -> x.divert(0, f), -1);
            CHECK.promise("21 detour");
            refused("detour(0, " + f + ")", x -> x.detour(0, f), -1);
            refused("detour(2, " + f + ")", x -> x.detour(2, f), -1);
            CHECK.promise("30 claims");
            refused("claims(" + f + ")", x -> x.claims(f), -1);
            CHECK.promise("34 print");
            refused("print(" + f + ", 0)", x -> x.print(f, 0), -1);
            refused("print(" + f + ", 1)", x -> x.print(f, 1), -1);
            CHECK.promise("39 goes");
            refused("goes(" + f + ", 1, 5)", x -> x.goes(f, 1, 5), -1);
        }
        for (int what : new int[] {MIN, -1, 4, MAX}) {
            CHECK.promise("7 field");
            refused("field(0, " + what + ")", x -> x.field(0, what), Twins.THROWN);
            CHECK.promise("14 build");
            refused("build(0, " + what + ")", x -> x.build(0, what), -1);
        }
        CHECK.promise("8 goer");
        for (int what : new int[] {MIN, -1, 6, MAX}) {
            refused("goer(0, " + what + ")", x -> x.goer(0, what), Twins.THROWN);
        }
        CHECK.promise("15 grant");
        for (int kind : new int[] {MIN, -1, 0, 4, 31, 32, 33, MAX}) {
            refused("grant(0, " + kind + ")", x -> x.grant(0, kind), -1);
        }
        CHECK.promise("47 row");
        for (int i : new int[] {MIN, -1, 4, 36, MAX}) {
            refused("row(" + i + ")", x -> x.row(i), Twins.THROWN);
        }
    }

    private static void people() {
        for (int g : new int[] {MIN, -1, 3, 6, MAX}) {
            CHECK.promise("a GOER that there is not");
            refused("goer(" + g + ", 0)", x -> x.goer(g, 0), Twins.THROWN);
            refused("goer(" + g + ", 5)", x -> x.goer(g, 5), Twins.THROWN);
            refused("hard(" + g + ", 0)", x -> x.hard(g, 0), -1);
            refused("grant(" + g + ", 1)", x -> x.grant(g, 1), -1);
            refused("divert(" + g + ", 0)", x -> x.divert(g, 0), -1);
            refused("path(" + g + ")", x -> x.path(g), -1);
            refused("detour(" + g + ", 0)", x -> x.detour(g, 0), -1);
            refused("vital(" + g + ")", x -> x.vital(g), -1);
            refused("cut(" + g + ")", x -> x.cut(g), -1);
            refused("meets(" + g + ", 0)", x -> x.meets(g, 0), -1);
            refused("meets(0, " + g + ")", x -> x.meets(0, g), -1);
            refused("meets(" + g + ", " + g + ")", x -> x.meets(g, g), -1);
            refused("reach(" + g + ")", x -> x.reach(g), -1);
            refused("better(" + g + ")", x -> x.better(g), -1);
            refused("alters(" + g + ")", x -> x.alters(g), -1);
        }
    }

    private static void numbers() {
        CHECK.promise("10 use");
        for (int v : new int[] {MIN, -1, 0, 100, MAX}) {
            refused("use(" + v + ")", x -> x.use(v), -1);
        }
        CHECK.promise("11 sheet");
        for (int kind : new int[] {MIN, -1, 4, MAX}) {
            for (int n : new int[] {MIN, -1, 0, 9, 36, 37, MAX}) {
                refused("sheet(" + kind + ", " + n + ", 1, 1)", x -> x.sheet(kind, n, 1, 1), -1);
            }
        }
        for (int kind = 0; kind <= 3; kind++) {
            for (int n : new int[] {37, MAX}) {
                int k = kind;
                refused("sheet(" + k + ", " + n + ", 1, 1)", x -> x.sheet(k, n, 1, 1), -1);
            }
        }
        for (int kind = 0; kind <= 2; kind++) {
            for (int n : new int[] {-1, MIN}) {
                int k = kind;
                refused("sheet(" + k + ", " + n + ", 1, 1)", x -> x.sheet(k, n, 1, 1), -2);
            }
        }
        CHECK.promise("12 nights");
        for (int n : new int[] {MIN, -1, 61, MAX}) {
            refused("nights(" + n + ")", x -> x.nights(n), -1);
        }
        CHECK.promise("31 later, 33 deepest");
        for (int n : new int[] {MIN, -1, 100, MAX}) {
            refused("later(" + n + ")", x -> x.later(n), -1);
            refused("deepest(" + n + ")", x -> x.deepest(n), -1);
        }
        CHECK.promise("34 print");
        for (int is : new int[] {MIN, -1, 2, MAX}) {
            refused("print(0, " + is + ")", x -> x.print(0, is), -1);
        }
        refused("a 13th", RefusedEdgesTest::twelvePrints, x -> x.print(4, 1), -1);
        refused("a 13th", RefusedEdgesTest::twelvePrints, x -> x.print(0, 0), -1);
        CHECK.promise("38 gates");
        for (int n : new int[] {MIN, -1, 41, MAX}) {
            refused("gates(" + n + ")", x -> x.gates(n), -1);
        }
        CHECK.promise("39 goes");
        for (int k : new int[] {MIN, -1, 7, MAX}) {
            refused("goes(0, " + k + ", 5)", x -> x.goes(0, k, 5), -1);
        }
        for (int p : new int[] {MIN, -1, 11, MAX}) {
            refused("goes(0, 1, " + p + ")", x -> x.goes(0, 1, p), -1);
        }
        CHECK.promise("41 rests");
        for (int v : new int[] {MIN, -1, 21, MAX}) {
            refused("rests(" + v + ")", x -> x.rests(v), -1);
        }
        CHECK.promise("43 years");
        for (int n : new int[] {MIN, -1, 0, 41, MAX}) {
            refused("years(5, " + n + ")", x -> x.years(5, n), -1);
        }
        CHECK.promise("44 keep, 45 again");
        for (int i : new int[] {MIN, -1, 2, MAX}) {
            refused("keep(" + i + ")", x -> x.keep(i) ? 1 : 0, 0);
            refused("again(" + i + ")", x -> x.again(i) ? 1 : 0, 0);
        }
        refused("nothing kept", RefusedEdgesTest::nothingDone, x -> x.again(0) ? 1 : 0, 0);
        refused("nothing kept", RefusedEdgesTest::nothingDone, x -> x.again(1) ? 1 : 0, 0);
        CHECK.promise("46 count");
        for (int what : new int[] {MIN, -1, 15, MAX}) {
            refused("count(" + what + ")", x -> x.count(what), -1);
        }
        CHECK.promise("18 undo");
        refused("nothing to be undone", RefusedEdgesTest::nothingDone, BuriedWithIt::undo, -1);
    }

    private static void notSo() {
        CHECK.promise("an answer of -2");
        refused("lock, a ninth", RefusedEdgesTest::eightLocked, x -> x.lock(4), -2);
        refused("divert, the same", x -> x.divert(0, 2), -2);
        refused("path", x -> x.path(2), -2);
        refused("detour, none now", x -> x.detour(2, 0), -2);
        refused("detour, none then", x -> x.detour(1, 4), -2);
        refused("vital", x -> x.vital(2), -2);
        refused("cut", () -> {
            BuriedWithIt x = busy();
            x.divert(0, 1);
            return x;
        }, x -> x.cut(0), -2);
        refused("cut", x -> x.cut(2), 0);
        refused("frees", BuriedWithIt::frees, -2);
        refused("meets, one has no PATH", x -> x.meets(0, 2), -2);
        refused("better", x -> x.better(0), -2);
        refused("gate", () -> {
            BuriedWithIt x = eightLocked();
            x.divert(0, 4);
            return x;
        }, BuriedWithIt::gate, -2);
        refused("claims", x -> x.claims(8), -2);
        refused("alters", x -> x.alters(0), -2);
        refused("look", () -> {
            BuriedWithIt x = busy();
            x.print(8, 1);
            return x;
        }, BuriedWithIt::look, -2);
        refused("crowd", RefusedEdgesTest::withoutGoers, BuriedWithIt::crowd, -2);
    }

    private static void asks(String what, ToLongFunction<BuriedWithIt> call) {
        long want = call.applyAsLong(busy());
        TWINS.leavesButRow(what, RefusedEdgesTest::busy, call, want);
    }

    private static void questions() {
        CHECK.promise("Questions change nothing");
        asks("path", x -> x.path(1));
        asks("blocked", BuriedWithIt::blocked);
        asks("detour", x -> x.detour(0, 1));
        asks("vital", x -> x.vital(1));
        asks("cut", x -> x.cut(1));
        asks("busiest", BuriedWithIt::busiest);
        asks("meets", x -> x.meets(0, 1));
        asks("reach", x -> x.reach(1));
        asks("better", x -> x.better(2));
        asks("gate", BuriedWithIt::gate);
        asks("claims", x -> x.claims(4));
        asks("later", x -> x.later(99));
        asks("alters", x -> x.alters(1));
        asks("deepest", x -> x.deepest(99));
        asks("fits", BuriedWithIt::fits);
        asks("look", BuriedWithIt::look);
        asks("gates", x -> x.gates(40));
        asks("goes", x -> x.goes(0, 1, 5));
        asks("crowd", BuriedWithIt::crowd);
        asks("rests", x -> x.rests(5));
        asks("years", x -> x.years(7, 40));
        asks("nights(0)", x -> x.nights(0));
        asks("hard", x -> x.hard(0, 0));
        asks("count", x -> x.count(12));
        asks("end of all signs", x -> x.end(x.count(14)) ? 1 : 0);
        asks("use as it is", x -> x.use(33));
        TWINS.leavesButRow("frees", () -> {
            BuriedWithIt x = busy();
            x.build(8, 1);
            x.build(5, 1);
            x.lock(1);
            return x;
        }, BuriedWithIt::frees, 1);
    }

    public static void main(String[] args) {
        texts();
        readers();
        pieces();
        people();
        numbers();
        notSo();
        questions();
        CHECK.end();
    }
}
