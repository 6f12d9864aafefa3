/** Each promise of the document by answers worked out by hand: ordinary calls, edges, wrong arguments. */
public final class PromisesTest {
    private static final Checks CHECK = new Checks();
    /*
     * The land of most tests:   0 1 2    . . .
     *                           3 4 5    . h .
     *                           6 7 8    b . w
     * GOER 0 goes 0 1 2 5 (HARD 3), GOER 1 (h) 0 1 4 7 (HARD 4), GOER 2 begins in water without a right.
     */
    private static final String LAND = "33....h.b.w";
    private static final String GOERS = "0012;0021h;2200";
    private static final String SIX = "0000hbw;0000hbw;0000hbw;0000hbw;0000hbw;0000hbw";

    private static BuriedWithIt plain() {
        return Checks.made(LAND, GOERS);
    }

    private static BuriedWithIt say(BuriedWithIt x, String text) {
        return Checks.say(x, text);
    }

    private static void due(String what, long got, long want) {
        CHECK.due(what, got, want);
    }

    private static void due(String what, boolean got, boolean want) {
        CHECK.due(what, got, want);
    }

    private static void row(String what, BuriedWithIt x, long... want) {
        CHECK.row(what, x, want);
    }

    private static String times(String s, int n) {
        return s.repeat(n);
    }

    private static void newObject() {
        CHECK.promise("1 new");
        BuriedWithIt x = new BuriedWithIt();
        int[] want = {1, 1, 0, 20, 0, 0, 1, 0, 0, 0, 0, 0, 0, 0, 0};
        for (int what = 0; what < want.length; what++) {
            due("count(" + what + ")", x.count(what), want[what]);
        }
        due("NONE", BuriedWithIt.NONE, -1);
        due("field", x.field(0, 0), 0);
        due("undo", x.undo(), -1);
        due("again", x.again(0), false);
    }

    private static void signAndEnd() {
        CHECK.promise("2 sign");
        BuriedWithIt x = new BuriedWithIt();
        for (int i = 1; i <= 20; i++) {
            due("sign", x.sign(0x31312E2E), 4 * i);
        }
        due("sign 81", x.sign(0), -1);
        due("signs", x.count(14), 80);
        CHECK.promise("3 end");
        due("end(81)", x.end(81), false);
        due("end(-1)", x.end(-1), false);
        due("end(80)", x.end(80), true);
        due("end(77)", x.end(77), true);
        due("end(78)", x.end(78), false);
        due("sign", x.sign(0), -1);
        due("end(76)", x.end(76), true);
        due("sign", x.sign(0), 80);
        due("end(3)", x.end(3), true);
        due("land '11.'", x.land(), 1);
        due("the text is empty", x.count(14), 0);
        due("end(0)", x.end(0), true);
        x.sign(0xFF313131);
        due("a high byte is a sign", x.land(), -1);
    }

    private static void land() {
        CHECK.promise("4 land");
        String[] texts = {"", "0", "7", "x", "1", "10", "17", "1x", "11", "11x", "11..", "12.", "66" + times(".", 35),
            "66" + times(".", 37), "21.H", "21.h", "66" + times("w", 36)};
        int[] want = {-1, -1, -1, -1, -2, -2, -2, -2, -3, -3, -4, -4, -38, -39, -4, 2, 36};
        for (int i = 0; i < texts.length; i++) {
            due("land " + texts[i], say(new BuriedWithIt(), texts[i]).land(), want[i]);
        }
        BuriedWithIt x = plain();
        x.use(33);
        say(x, "2").rule();
        x.nights(2);
        x.lock(1);
        x.print(0, 1);
        x.keep(0);
        say(x, "3x");
        due("refused", x.land(), -2);
        int[] kept = {3, 3, 3, 33, 2, 1, 6, 1, 1, 1, 26, 1, 2, 2, 0};
        for (int what = 0; what < kept.length; what++) {
            due("refused: count(" + what + ")", x.count(what), kept[what]);
        }
        due("again still", x.again(0), true);
        due("land", say(x, "24.hbw..hh").land(), 8);
        int[] anew = {2, 4, 0, 33, 0, 0, 3, 3, 1, 1, 0, 0, 0, 2, 0};
        for (int what = 0; what < anew.length; what++) {
            due("anew: count(" + what + ")", x.count(what), anew[what]);
        }
        due("nothing is kept", x.again(0), false);
        due("undo", x.undo(), -1);
        due("KIND", x.field(3, 0), 3);
        say(x, "0000").goers();
        due("THE RULE stays", x.hard(0, 0), 2);
    }

    private static void goers() {
        CHECK.promise("5 goers");
        String[] texts = {"", "3", "0", "03", "00", "003", "000", "0003", "0000", "0022hbw", "0000hw", "0000hh",
            "0000wb", "0000.", "0000;", "0000h;", "0000;;", "0000 ;", "0000;3", SIX, SIX + ";", SIX + "x",
            SIX + ";0000", SIX.substring(0, 45) + "x", times("0000;", 5) + "0000;", times("0000;", 6) + "0000",
            SIX.substring(0, 40) + "0000000000", times("0000;", 5) + "0000h;" + times("0", 30), "0:00"};
        int[] want = {0, -1, -2, -2, -3, -3, -4, -4, 1, 1, 1, -6, -6, -5, -6, -7, -6, -5, -6, 6, -48, -48, -48, -46,
            -31, -31, -45, -32, -2};
        for (int i = 0; i < texts.length; i++) {
            BuriedWithIt x = say(new BuriedWithIt(), LAND);
            x.land();
            due("goers " + texts[i], say(x, texts[i]).goers(), want[i]);
            due("GOERS then", x.count(2), want[i] < 0 ? 0 : want[i]);
        }
        BuriedWithIt x = plain();
        due("FROM", x.goer(1, 0), 0);
        due("GOAL", x.goer(1, 1), 7);
        due("RIGHTS", x.goer(1, 2), 3);
        x.print(0, 1);
        x.lock(1);
        x.keep(1);
        due("no room", say(x, "0000;0000;0000;0000").goers(), -16);
        due("none came", x.count(2), 3);
        due("refused: undo stays", x.count(12), 1);
        due("empty", say(x, "").goers(), 0);
        due("empty: undo stays", x.count(12), 1);
        due("empty: kept", x.again(1), true);
        x.lock(1);
        due("three more", say(x, "0000w;0101;0202b").goers(), 3);
        due("six", x.count(2), 6);
        due("RIGHTS", x.goer(3, 2), 9);
        due("RIGHTS", x.goer(5, 2), 5);
        due("undo is forgotten", x.count(12), 0);
        due("again", x.again(1), false);
        due("prints stay", x.count(11), 1);
        due("no room for one", say(x, "0000").goers(), -1);
        due("nor for none", say(x, "x").goers(), -1);
    }

    private static void ruleFaults() {
        CHECK.promise("6 rule");
        String[] texts = {"", "1", "12", "123", "1234", "k", "z", " ", "-", "--k", "-(-k)", "+1", "1+", "1+*2", "1--2",
            "1++2", "k<", "k<1", "k<1<2", "k<1=2", "k<(1<2)", "(k<1)<2", "k<<1", "()", "(1", "(1)", "1)", "((((1))))",
            "(((((1)))))", "(1)(2)", "(1)2", "k2", "2k", "kk", "1+(2*3)-4/5", times("-", 39) + "1", times("-", 40),
            times("-", 40) + "1", times("1+", 20), times("1+", 20) + "1", times("1+", 19) + "12", "1+1<2+3*4>5",
            times("1+", 19) + "1x1", "((((1)+(((2", "(1)+((((1))))", "(1)+(((((1"};
        int[] want = {0, 0, 0, 0, -4, 0, -1, -1, -2, 0, 0, -1, -3, -3, 0, -3, -3, 0, -4, -4, 0, 0, -3, -2, -3, 0, -2, 0,
            -5, -4, -4, -2, -2, -2, 0, 0, -41, -41, -41, -41, 0, -10, -40, -9, 0, -9};
        for (int i = 0; i < texts.length; i++) {
            BuriedWithIt x = new BuriedWithIt();
            due("rule " + texts[i], say(x, texts[i]).rule(), want[i]);
            due("the text is empty", x.count(14), 0);
            due("law " + texts[i], say(x, texts[i]).law(), want[i] == 0 ? 0 : -9999 + want[i]);
        }
    }

    private static void ruleValues() {
        CHECK.promise("6 rule: values");
        BuriedWithIt x = Checks.made("14.hbw", "0003;0003hw");
        x.lock(2);
        x.use(99);
        x.sheet(2, 4, 10, 5);
        x.nights(9);
        due("NIGHT", x.count(4), 9);
        String[] texts = {"1+2*3", "(1+2)*3", "10-3-2", "100/7/2", "7/2*2", "-7/2+9", "7/-2+9", "7/0+1", "0/5+1", "2-3",
            "0", "-1", "99", "100", "999*999", "999*999*999*999", "3<4", "4<3", "3>4", "4>3", "3=3", "3=4", "1+(2<3)*5",
            "1+2<3+4", "--5", "---5", "-5*-5", "2*-3+10", "10--3", "1+k", "1+r", "1+o", "w", "n", "i", "(n=2)*7",
            "999*999*999*999*999*999*999*999*999*999", "(0-999)*999*999*999", "0-1<1", "007", "8/3", "(0-8)/3+9"};
        // The FIELD 2 for GOER 1: KIND 2, no RIGHT, LOCKED, WORN 20, NIGHT 9 (rest 2).
        int[] want = {7, 9, 5, 7, 6, 6, 6, 1, 1, 0, 0, 0, 99, 99, 99, 0, 1, 0, 0, 1, 1, 0, 6, 1, 5, 0, 25, 4, 13, 3, 1,
            2, 20, 2, 1, 7, 0, 99, 1, 7, 2, 7};
        for (int i = 0; i < texts.length; i++) {
            due("rule " + texts[i], say(x, texts[i]).rule(), 0);
            int product = 0;
            if (texts[i].startsWith("999*999*999*999")) {
                product = 1;
                for (String one : texts[i].split("\\*")) {
                    product *= Integer.parseInt(one);
                }
                want[i] = product < 1 ? 0 : Math.min(product, 99);
            }
            if (texts[i].startsWith("(0-999)")) {
                product = -999 * 999 * 999 * 999;
                want[i] = product < 1 ? 0 : Math.min(product, 99);
            }
            due("hard by " + texts[i], x.hard(1, 2), want[i]);
        }
        due("refused", say(x, "5+").rule(), -3);
        due("THE RULE stays", x.hard(1, 2), 7);
        due("none", say(x, "").rule(), 0);
        due("plain again: LOCKED", x.hard(1, 2), 0);
        due("plain again: h", x.hard(1, 1), 2);
        due("plain again: w", x.hard(1, 3), 4);
        due("plain again: no right", x.hard(0, 3), 0);
    }

    private static void fieldAndGoer() {
        BuriedWithIt x = plain();
        CHECK.promise("7 field");
        int[] kinds = {0, 0, 0, 0, 1, 0, 2, 0, 3};
        int[] over = {3, 3, 1, 0, 2, 1, 0, 2, 0};
        for (int f = 0; f < 9; f++) {
            due("KIND of " + f, x.field(f, 0), kinds[f]);
            due("GOERS over " + f, x.field(f, 3), over[f]);
            due("LOCKED " + f, x.field(f, 2), 0);
        }
        x.nights(3);
        due("WORN", x.field(0, 1), 6);
        due("WORN", x.field(5, 1), 3);
        x.lock(1);
        due("LOCKED", x.field(1, 2), 1);
        due("GOERS over it", x.field(1, 3), 0);
        due("GOERS over 3", x.field(3, 3), 2);
        int[][] wrong = {{-1, 0}, {9, 0}, {0, -1}, {0, 4}, {Integer.MIN_VALUE, 0}, {0, Integer.MAX_VALUE}};
        for (int[] w : wrong) {
            CHECK.none("field(" + w[0] + ", " + w[1] + ")", () -> x.field(w[0], w[1]));
        }
        CHECK.promise("8 goer");
        BuriedWithIt y = plain();
        y.nights(4);
        int[][] want = {{0, 5, 1, 4, 0, 1}, {0, 7, 3, 4, 0, 1}, {8, 0, 1, 0, 4, 0}};
        for (int g = 0; g < 3; g++) {
            for (int what = 0; what < 6; what++) {
                due("goer(" + g + ", " + what + ")", y.goer(g, what), want[g][what]);
            }
        }
        int[][] bad = {{-1, 0}, {3, 0}, {0, -1}, {0, 6}, {Integer.MAX_VALUE, 5}};
        for (int[] w : bad) {
            CHECK.none("goer(" + w[0] + ", " + w[1] + ")", () -> y.goer(w[0], w[1]));
        }
    }

    private static void hardUseSheet() {
        BuriedWithIt x = plain();
        CHECK.promise("9 hard");
        due("open", x.hard(0, 0), 1);
        due("hedge", x.hard(0, 4), 0);
        due("hedge by right", x.hard(1, 4), 2);
        due("no goer", x.hard(3, 0), -1);
        due("no goer", x.hard(-1, 0), -1);
        due("no field", x.hard(0, 9), -1);
        due("no field", x.hard(0, -1), -1);
        CHECK.promise("10 use");
        due("use(0)", x.use(0), -1);
        due("use(100)", x.use(100), -1);
        due("use(1)", x.use(1), 20);
        due("use(99)", x.use(99), 1);
        due("use(99)", x.use(99), 99);
        due("USE", x.count(3), 99);
        CHECK.promise("11 sheet");
        due("ints", x.sheet(2, 3, 98, 1), 98 + 99 + 99);
        due("those behind", x.field(3, 1), 0);
        due("below 0", x.sheet(2, 9, -4, 1), 1 + 2 + 3 + 4);
        due("bytes", x.sheet(0, 2, 127, 1), 99);
        due("its sign", x.field(1, 1), 0);
        due("bytes", x.sheet(0, 2, 261, 256), 10);
        due("shorts", x.sheet(1, 3, 65540, 32768), 4 + 4);
        due("ints wrap", x.sheet(2, 2, Integer.MAX_VALUE, 1), 99);
        due("more than FIELDS", x.sheet(2, 36, 1, 0), 9);
        due("n 37", x.sheet(2, 37, 1, 0), -1);
        due("n 37, missing", x.sheet(3, 37, 1, 0), -1);
        due("kind 4", x.sheet(4, 1, 1, 0), -1);
        due("kind 4 first", x.sheet(4, -1, 1, 0), -1);
        due("kind -1", x.sheet(-1, 1, 1, 0), -1);
        for (int kind = 0; kind < 3; kind++) {
            due("n -1", x.sheet(kind, -1, 1, 0), -2);
        }
        due("nothing changed", x.count(10), 9);
        due("missing, n below 0", x.sheet(3, -1, 1, 0), -3);
        due("all 0", x.count(10), 0);
        x.sheet(2, 9, 7, 0);
        due("none of it", x.sheet(2, 0, 1, 0), 0);
        due("all 0", x.count(10), 0);
        x.sheet(2, 9, 99, 0);
        due("a sheet alone opens nothing", x.field(4, 0), 1);
    }

    private static void nights() {
        CHECK.promise("12 nights");
        BuriedWithIt x = plain();
        due("nights(-1)", x.nights(-1), -1);
        due("nights(61)", x.nights(61), -1);
        due("refused: no ROW", x.count(13), 0);
        due("nights(0)", x.nights(0), 0);
        row("nights(0)", x, 0, 0);
        due("nights(0) is not undone", x.count(12), 0);
        due("nights(19)", x.nights(19), 38);
        row("nights(19)", x, 19, 0);
        due("hedge", x.field(4, 0), 1);
        due("nights(1)", x.nights(1), 2);
        row("nights(1)", x, 1, 1);
        due("open by USE", x.field(4, 0), 0);
        due("WORN", x.field(4, 1), 20);
        due("WORN", x.field(0, 1), 40);
        due("nights(60)", x.nights(60), 120);
        due("WORN 99 at most", x.field(0, 1), 99);
        due("WORN", x.field(4, 1), 80);
        due("NIGHT", x.count(4), 80);
        for (int i = 0; i < 15; i++) {
            x.nights(60);
        }
        due("CAME", x.goer(0, 3), 980);
        due("all count", x.nights(60), 120);
        row("all count", x, 60, 0);
        due("CAME 999 at most", x.goer(0, 3), 999);
        due("MISSED 999 at most", x.goer(2, 4), 999);
        x.nights(60);
        due("CAME 999 at most", x.goer(0, 3), 999);
        BuriedWithIt y = Checks.made("13.bw", "0000");
        y.use(5);
        y.sheet(2, 3, 5, 0);
        due("a FIELD worn already", y.nights(1), 1);
        row("water stays", y, 0, 1);
        due("house", y.field(1, 0), 0);
        due("water", y.field(2, 0), 3);
        // All PATHS are as ahead of the NIGHT: what GOER 0 wears does not turn GOER 1 away in the same one.
        BuriedWithIt z = Checks.made("22....", "0011;0011");
        say(z, "1+w*9").rule();
        z.nights(1);
        due("WORN by both", z.field(1, 1), 2);
        due("WORN by none", z.field(2, 1), 0);
        z.nights(1);
        due("then by both", z.field(2, 1), 2);
    }

    private static void acts() {
        CHECK.promise("13 lock");
        BuriedWithIt x = plain();
        for (int f = 0; f < 8; f++) {
            due("lock", x.lock(f), f + 1);
        }
        due("a ninth", x.lock(8), -2);
        due("lock(9)", x.lock(9), -1);
        due("lock(-1)", x.lock(-1), -1);
        due("not any more", x.lock(0), 7);
        due("the ninth then", x.lock(8), 8);
        due("LOCKED", x.count(5), 8);
        due("what can be undone", x.count(12), 10);
        CHECK.promise("14 build");
        x = plain();
        x.nights(2);
        due("WORN", x.field(0, 1), 4);
        due("build", x.build(0, 2), 0);
        due("KIND", x.field(0, 0), 2);
        due("not WORN", x.field(0, 1), 0);
        due("others stay WORN", x.field(1, 1), 4);
        due("build", x.build(0, 3), 2);
        due("build", x.build(0, 0), 3);
        due("build(9, 0)", x.build(9, 0), -1);
        due("build(-1, 0)", x.build(-1, 0), -1);
        due("build(0, 4)", x.build(0, 4), -1);
        due("build(0, -1)", x.build(0, -1), -1);
        due("what can be undone", x.count(12), 4);
        CHECK.promise("15 grant");
        due("grant", x.grant(0, 1), 3);
        due("grant", x.grant(0, 2), 7);
        due("grant", x.grant(0, 3), 15);
        due("loses it", x.grant(0, 2), 11);
        due("RIGHTS", x.goer(0, 2), 11);
        due("grant(0, 0)", x.grant(0, 0), -1);
        due("grant(0, 4)", x.grant(0, 4), -1);
        due("grant(3, 1)", x.grant(3, 1), -1);
        due("grant(-1, 1)", x.grant(-1, 1), -1);
        CHECK.promise("16 divert");
        due("divert", x.divert(0, 8), 5);
        due("GOAL", x.goer(0, 1), 8);
        due("the same", x.divert(0, 8), -2);
        due("divert(0, 9)", x.divert(0, 9), -1);
        due("divert(0, -1)", x.divert(0, -1), -1);
        due("divert(3, 0)", x.divert(3, 0), -1);
        due("divert(-1, 0)", x.divert(-1, 0), -1);
        due("what can be undone", x.count(12), 9);
    }

    private static void year() {
        CHECK.promise("17 year");
        String[] texts = {"x", "n", "nx", "n1x", "l", "l0", "lx", "l0x", "b", "b0", "b00", "b004", "b00x", "g", "g0",
            "g00", "g04", "gx", "d", "d0", "d00", "d00x", "n1;n1", times("n0", 30), times("n0", 30) + "n",
            times("n0", 31), times("n0", 30) + "x", times("n0", 29) + "nx1", "n" + times("l00", 20), "N1"};
        int[] want = {-1, -2, -2, -3, -2, -3, -2, -3, -2, -3, -4, -4, -4, -2, -3, -3, -3, -2, -2, -3, -4, -4, -3, 30,
            -61, -61, -61, -60, -2, -1};
        for (int i = 0; i < texts.length; i++) {
            BuriedWithIt x = plain();
            due("year " + texts[i], say(x, texts[i]).year(), want[i]);
            due("the text is empty", x.count(14), 0);
            due("undone", x.count(12), want[i] < 0 ? 0 : 1);
            due("ROW", x.count(13), want[i] < 0 ? 0 : 2);
        }
        BuriedWithIt x = plain();
        due("cut off at 60", say(x, "l00" + times("n1", 28) + "l011").year(), -61);
        due("nothing is done", x.count(4), 0);
        due("year", say(x, "n2l11b203g21d010n3").year(), 6);
        row("year", x, 0, 5);
        due("LOCKED", x.field(4, 2), 1);
        due("KIND", x.field(6, 0), 3);
        due("RIGHTS", x.goer(2, 2), 3);
        due("GOAL", x.goer(0, 1), 3);
        due("CAME", x.goer(0, 3), 5);
        due("CAME", x.goer(1, 3), 2);
        due("as one", x.count(12), 1);
        due("undo", x.undo(), 0);
        due("GOAL", x.goer(0, 1), 5);
        due("KIND", x.field(6, 0), 2);
        due("NIGHT", x.count(4), 0);
        String[] failing = {"n1l33n1", "n1l03n1", "n1b300n1", "n1g31n1", "n1d012n1", "n1d300n1", "n1d099n1"};
        for (String f : failing) {
            BuriedWithIt y = plain();
            due("year " + f, say(y, f).year(), 1);
            row("year " + f, y, 1, 1);
            due("undone", y.count(12), 1);
        }
        BuriedWithIt z = plain();
        due("none done", say(z, "g91").year(), 0);
        row("none done", z, 1, 0);
        due("not undone", z.count(12), 0);
        due("empty", say(z, "").year(), 0);
        row("empty", z, 0, 0);
        due("not undone", z.count(12), 0);
        due("nine are LOCKED", say(z, "l00l01l02l10l11l12l20l21l22").year(), 8);
        row("nine", z, 1, 0);
    }

    private static void undo() {
        CHECK.promise("18 undo");
        BuriedWithIt x = plain();
        due("none", x.undo(), -1);
        x.nights(1);
        x.lock(3);
        x.build(4, 0);
        x.grant(2, 3);
        x.divert(0, 8);
        say(x, "n1").year();
        due("six", x.count(12), 6);
        due("refused ones are not kept", x.lock(9), -1);
        x.divert(0, 8);
        x.nights(0);
        due("six", x.count(12), 6);
        due("year", x.undo(), 5);
        due("NIGHT", x.count(4), 1);
        due("divert", x.undo(), 4);
        due("GOAL", x.goer(0, 1), 5);
        due("grant", x.undo(), 3);
        due("RIGHTS", x.goer(2, 2), 1);
        due("build", x.undo(), 2);
        due("KIND", x.field(4, 0), 1);
        due("WORN", x.field(4, 1), 1);
        due("lock", x.undo(), 1);
        due("LOCKED", x.count(5), 0);
        due("nights", x.undo(), 0);
        due("WORN", x.count(10), 0);
        due("NIGHT", x.count(4), 0);
        due("CAME", x.goer(0, 3), 0);
        due("MISSED", x.goer(2, 4), 0);
        due("none", x.undo(), -1);
        for (int i = 0; i < 15; i++) {
            x.nights(1);
        }
        due("twelve", x.count(12), 12);
        for (int i = 11; i >= 0; i--) {
            due("undo", x.undo(), i);
        }
        due("the three first stay", x.count(4), 3);
        due("none", x.undo(), -1);
        x.lock(0);
        x.use(7);
        say(x, "5").rule();
        x.print(0, 1);
        x.sheet(2, 9, 50, 0);
        x.undo();
        due("USE stays", x.count(3), 7);
        due("prints stay", x.count(11), 1);
        due("THE RULE stays", x.hard(0, 8), 5);
        due("WORN as ahead of it", x.count(10), 24);
    }

    private static void path() {
        CHECK.promise("19 path");
        BuriedWithIt x = plain();
        due("path(0)", x.path(0), 3);
        row("path(0)", x, 0, 1, 2, 5);
        due("path(2)", x.path(2), -2);
        due("path(3)", x.path(3), -1);
        due("path(-1)", x.path(-1), -1);
        row("the ROW stays", x, 0, 1, 2, 5);
        due("path(1)", x.path(1), 4);
        row("path(1)", x, 0, 1, 4, 7);
        x.divert(1, 0);
        due("FROM is GOAL", x.path(1), 0);
        row("FROM is GOAL", x, 0);
        x.lock(0);
        due("FROM is GOAL, LOCKED", x.path(1), -2);
        due("FROM is LOCKED", x.path(0), -2);
        // HARD first, then the fewest FIELDS, then the least row.
        BuriedWithIt y = Checks.made("33.h.......", "0002h;2200;0022");
        due("less HARD than more FIELDS", y.path(0), 3);
        row("over the hedge", y, 0, 1, 2);
        due("back", y.path(1), 4);
        row("the least row", y, 8, 5, 4, 3, 0);
        due("there", y.path(2), 4);
        row("the least row", y, 0, 3, 4, 5, 8);
        BuriedWithIt z = Checks.made("32......", "0001;0021");
        say(z, "1+w").rule();
        z.sheet(2, 6, 0, 0);
        due("beside", z.path(0), 1);
        row("beside", z, 0, 1);
        // FIELDS 0 1 / 2 3 / 4 5, WORN 0 2 0 0 0 0: 0 1 is HARD 3, and so is 0 2 3 1 with 5; 0 .. 5 goes 0 2 3 5.
        z.sheet(2, 2, 0, 2);
        due("HARD of FIELDS but FROM", z.path(0), 3);
        due("around it", z.path(1), 3);
        row("around it", z, 0, 2, 3, 5);
        BuriedWithIt like = Checks.made("23......", "0002");
        say(like, "1+w").rule();
        like.sheet(2, 2, 0, 2);
        due("of like HARD ones the fewest FIELDS", like.path(0), 4);
        row("the fewest", like, 0, 1, 2);
        like.sheet(2, 2, 0, 3);
        due("less HARD ones go around", like.path(0), 4);
        row("around", like, 0, 3, 4, 5, 2);
    }

    private static void blockedDetourVital() {
        BuriedWithIt x = plain();
        CHECK.promise("20 blocked");
        due("blocked", x.blocked(), 4);
        row("blocked", x, 1, 7);
        x.lock(0);
        due("all", x.blocked(), 7);
        row("all", x, 3, 0);
        x.lock(0);
        CHECK.promise("21 detour");
        due("not on it", x.detour(0, 4), 0);
        due("another way", x.detour(1, 1), 0);
        due("none then", x.detour(1, 4), -2);
        due("FROM", x.detour(0, 0), -2);
        due("none now", x.detour(2, 4), -2);
        due("no goer", x.detour(3, 0), -1);
        due("no field", x.detour(0, 9), -1);
        due("no field", x.detour(0, -1), -1);
        due("nothing is LOCKED", x.count(5), 0);
        BuriedWithIt y = Checks.made("33....h....", "1012h");
        due("detour", y.detour(0, 4), 1);
        y.lock(4);
        due("LOCKED already", y.detour(0, 4), 0);
        say(y, "5-o*4").rule();
        due("less HARD", y.detour(0, 5), -4);
        CHECK.promise("22 vital");
        due("vital(0)", x.vital(0), 39);
        row("vital(0)", x, 4);
        due("vital(1)", x.vital(1), 145);
        row("vital(1)", x, 3);
        due("none now", x.vital(2), -2);
        due("no goer", x.vital(3), -1);
        due("no goer", x.vital(-1), -1);
        row("the ROW stays", x, 3);
        BuriedWithIt z = Checks.made("66" + times(".", 36), "5555;0055");
        due("the last FIELD", z.vital(0), 1L << 35);
        for (int f = 13; f <= 16; f++) {
            z.lock(f);
            z.lock(f + 6);
        }
        due("though eight are", z.vital(1), 1L << 35 | 1);
        row("though eight are", z, 2);
        z.divert(1, 13);
        due("GOAL is LOCKED", z.vital(1), -2);
    }

    /** Here the shortest way, once taken, must give FIELDS back, or too few ways are found. */
    private static final String[][] CROSSED = {{"33......w..", "0021", "2"}, {"33......w..", "1022", "2"},
        {"33......w..", "2210", "2"}, {"34..........w.", "1220", "2"}, {"65w...w...w....w...w.w........w.", "1252", "2"},
        {"54....ww......w...w..w", "2342", "2"}, {"65w...w...........w...w.w...ww..", "2054", "2"},
        {"54w..........ww.......", "3110", "2"}, {"56.....ww..w.......www..wwww.ww.", "3201", "2"},
        {"45w....w..w.ww...www..", "2201", "2"}, {"56..w...w.....w.ww.w.....www....", "2442", "2"},
        {"66...w.w..w.........ww........ww......", "3550", "2"}, {"53...........w.ww", "3102", "2"},
        {"66.w....ww...w...................ww...", "5413", "3"}, {"64.......w.....w.....w..ww", "2210", "3"},
        {"35...............", "2103", "3"}, {"63..........w.......", "1022", "3"},
        {"46.......w.......w........", "2532", "3"}, {"44w...............", "1231", "3"},
        {"64..........w.......ww...w", "0231", "3"}, {"55w....w.........ww........", "3411", "3"},
        {"65.....w....w.w......w..w.......", "4024", "2"}, {"55......w...........w......", "3024", "3"},
        {"46.ww.ww.......w.w.......w", "3311", "2"}, {"55w.....w...w......w.......", "1233", "3"},
        {"66w..www..ww.w.w....w.......w.......w.", "4432", "3"}, {"65.....w..........w..w.....wwww.", "3211", "3"}};

    private static void cut() {
        CHECK.promise("23 cut");
        BuriedWithIt x = plain();
        due("cut(0)", x.cut(0), 1);
        due("cut(1)", x.cut(1), 1);
        due("none now", x.cut(2), 0);
        due("no goer", x.cut(3), -1);
        due("no goer", x.cut(-1), -1);
        x.divert(0, 1);
        due("beside", x.cut(0), -2);
        x.divert(0, 0);
        due("FROM is GOAL", x.cut(0), -2);
        x.lock(0);
        due("none now, though FROM is GOAL", x.cut(0), 0);
        BuriedWithIt y = Checks.made("55" + times(".", 25), "0044;1133;0133;0013;1141;2101");
        int[] want = {2, 4, 3, 2, 3, 3};
        for (int g = 0; g < 6; g++) {
            due("cut(" + g + ")", y.cut(g), want[g]);
        }
        due("FROM is water", Checks.made("43.w........w.", "0132").cut(0), 0);
        due("two ways around", Checks.made("34.....ww.....", "0023").cut(0), 2);
        for (String[] one : CROSSED) {
            due("cut " + one[0] + " " + one[1], Checks.made(one[0], one[1]).cut(0), Integer.parseInt(one[2]));
        }
        BuriedWithIt z = Checks.made("33.........", "1101;1110;1112;1121;2100;0110");
        for (int g = 0; g < 4; g++) {
            due("beside, on each side", z.cut(g), -2);
        }
        due("across", z.cut(4), 2);
        due("across, and all around", z.cut(5), 3);
    }

    private static void frees() {
        CHECK.promise("24 frees");
        BuriedWithIt x = Checks.made("33.........", "0022;0220");
        due("none to be opened", x.frees(), 0);
        row("none", x, 0);
        x.lock(1);
        x.lock(3);
        x.lock(5);
        due("one", x.frees(), 1);
        row("the least", x, 2);
        x.lock(7);
        due("two", x.frees(), 2);
        row("the least", x, 8 + 32);
        x.lock(8);
        due("three", x.frees(), 3);
        row("GOAL, too", x, 8 + 32 + 256);
        due("nothing is opened", x.count(5), 5);
        x.build(8, 3);
        due("by none", x.frees(), -2);
        row("the ROW stays", x, 8 + 32 + 256);
        BuriedWithIt all = Checks.made("24........", "0001;0203;1011;1213");
        for (int f = 0; f < 8; f++) {
            all.lock(f);
        }
        due("all eight", all.frees(), 8);
        row("all eight", all, 255);
        BuriedWithIt y = Checks.made("15.....", "0004");
        say(y, "o").rule();
        due("LOCKED ones alone", y.frees(), -2);
        for (int f = 0; f < 5; f++) {
            y.lock(f);
        }
        due("none to be opened", y.frees(), 0);
    }

    private static void busiestMeets() {
        CHECK.promise("25 busiest");
        BuriedWithIt x = plain();
        due("busiest", x.busiest(), 0);
        row("busiest", x, 2);
        x.lock(0);
        due("none goes", x.busiest(), 0);
        row("none goes", x, 0);
        BuriedWithIt y = Checks.made("15.....", "0002;0204;0103");
        due("busiest", y.busiest(), 2);
        row("busiest", y, 3);
        CHECK.promise("26 meets");
        BuriedWithIt z = plain();
        due("at once", z.meets(0, 1), 0);
        row("at once", z, 0, 2);
        due("like ones", z.meets(1, 1), -1);
        due("no goer", z.meets(0, 3), -1);
        due("no goer", z.meets(-1, 0), -1);
        due("one has none", z.meets(0, 2), -2);
        row("the ROW stays", z, 0, 2);
        due("half way", y.meets(0, 1), -2);
        BuriedWithIt w = Checks.made("15.....", "0004;0400;0300;0202;0401");
        due("half way", w.meets(0, 1), 2);
        row("half way", w, 2, 5);
        due("they pass one another", w.meets(0, 2), -2);
        due("at rest", w.meets(0, 3), 2);
        row("at rest", w, 2, 1);
        due("at rest", w.meets(3, 1), 2);
        due("behind", w.meets(2, 4), -2);
        due("one comes to where one rests", w.meets(4, 3), 2);
        w.divert(3, 1);
        due("both at GOAL", w.meets(4, 3), 3);
        row("both at GOAL", w, 1, 2);
    }

    private static void reachBetterGate() {
        BuriedWithIt x = plain();
        CHECK.promise("27 reach");
        due("reach(0)", x.reach(0), 47);
        row("reach(0)", x, 5, 1);
        due("reach(1)", x.reach(1), 191);
        row("reach(1)", x, 7, 2);
        due("reach(2)", x.reach(2), 0);
        row("reach(2)", x, 0, 0);
        due("no goer", x.reach(3), -1);
        due("no goer", x.reach(-1), -1);
        due("all", Checks.made("66" + times(".", 36), "0000").reach(0), (1L << 36) - 1);
        CHECK.promise("28 better");
        due("one that has none", x.better(2), 3);
        row("one that has none", x, 4);
        due("none is less", x.better(0), -2);
        due("none is less", x.better(1), -2);
        row("the ROW stays", x, 4);
        due("no goer", x.better(3), -1);
        due("no goer", x.better(-1), -1);
        due("nothing is granted", x.goer(2, 2), 1);
        BuriedWithIt y = Checks.made("35.....hbhbw.....", "0020");
        say(y, "r").rule();
        due("of equal ones the least", y.better(0), 1);
        row("the least", y, 2);
        y.grant(0, 1);
        due("it has it", y.better(0), -2);
        CHECK.promise("29 gate");
        due("of equal ones the first", x.gate(), 1);
        row("gate", x, 5);
        x.lock(1);
        due("not the LOCKED one", x.gate(), 3);
        row("gate", x, 7);
        BuriedWithIt z = Checks.made("12..", "0001");
        due("all are FROM or GOAL", z.gate(), -2);
        due("the ROW", z.count(13), 0);
        BuriedWithIt w = Checks.made("33.........", "0002");
        due("none is cut off", w.gate(), 1);
        row("none", w, 0);
        for (int f = 1; f < 9; f++) {
            w.lock(f);
        }
        due("no FIELD is left", w.gate(), -2);
    }

    private static void ahead() {
        BuriedWithIt x = plain();
        CHECK.promise("30 claims");
        due("open now", x.claims(0), 0);
        row("open now", x, 0);
        due("hedge", x.claims(4), 20);
        row("hedge", x, 20);
        due("house", x.claims(6), -2);
        due("water", x.claims(8), -2);
        due("no field", x.claims(9), -1);
        due("no field", x.claims(-1), -1);
        row("the ROW stays", x, 20);
        due("nothing is done", x.count(4), 0);
        x.use(99);
        due("the 99th", x.claims(4), 99);
        row("the 99th", x, 99);
        x.use(20);
        CHECK.promise("31 later");
        due("later(0)", x.later(0), 2);
        row("later(0)", x, 0, 1 + 2 + 4 + 8 + 32 + 128);
        due("later(20)", x.later(20), 2);
        row("later(20)", x, 160, 1 + 2 + 4 + 8 + 16 + 32 + 128);
        due("later(100)", x.later(100), -1);
        due("later(-1)", x.later(-1), -1);
        due("later(99)", x.later(99), 2);
        // From the 20th on GOER 0 goes 0 1 2 5 (HARD 3) or 0 1 4 5: the least row is 0 1 2 5.
        row("later(99)", x, 99 * 6, 191);
        CHECK.promise("32 alters");
        BuriedWithIt y = Checks.made("23.h....", "0002h;0002");
        y.lock(4);
        due("none yet", y.path(1), -2);
        due("alters", y.alters(1), 20);
        row("alters", y, 2);
        y.use(99);
        due("the 99th", y.alters(1), 99);
        y.use(20);
        due("never", y.alters(0), -2);
        due("no goer", y.alters(2), -1);
        due("no goer", y.alters(-1), -1);
        row("the ROW stays", y, 2);
        say(y, "3-w").rule();
        due("one that has one", y.alters(0), 2);
        row("0 without", y, 0);
        CHECK.promise("33 deepest");
        due("deepest(0)", x.deepest(0), 0);
        row("deepest(0)", x, 0);
        due("deepest(7)", x.deepest(7), 0);
        row("deepest(7)", x, 14);
        due("deepest(-1)", x.deepest(-1), -1);
        due("deepest(100)", x.deepest(100), -1);
        x.sheet(2, 9, 0, 3);
        due("deepest(0)", x.deepest(0), 8);
        row("deepest(0)", x, 24);
        due("deepest(99)", x.deepest(99), 0);
        row("deepest(99)", x, 99);
    }

    private static void prints() {
        BuriedWithIt x = plain();
        CHECK.promise("34 print");
        due("no field", x.print(9, 1), -1);
        due("no field", x.print(-1, 1), -1);
        due("is 2", x.print(0, 2), -1);
        due("is -1", x.print(0, -1), -1);
        for (int i = 1; i <= 12; i++) {
            due("print", x.print(0, 1), i);
        }
        due("a 13th", x.print(0, 1), -1);
        CHECK.promise("35 forget");
        due("forget", x.forget(), 12);
        due("forget", x.forget(), 0);
        CHECK.promise("36 fits");
        due("no prints", x.fits(), 3);
        row("no prints", x, 2);
        x.print(0, 1);
        due("both", x.fits(), 3);
        x.print(2, 0);
        due("not over 2", x.fits(), 2);
        row("not over 2", x, 1);
        x.lock(4);
        due("the PATH as it is now", x.fits(), 0);
        x.lock(4);
        x.forget();
        x.print(4, 1);
        x.print(0, 1);
        due("each print counts", x.fits(), 2);
        x.forget();
        x.print(2, 0);
        x.print(3, 0);
        due("each print counts", x.fits(), 2);
        x.print(2, 1);
        due("both can't be", x.fits(), 0);
        row("none", x, 0);
        CHECK.promise("37 look");
        due("none fits", x.look(), -2);
        row("the ROW stays", x, 0);
        x.forget();
        due("look", x.look(), 2);
        row("look", x, 1);
        x.print(2, 1);
        due("one is left", x.look(), 0);
        row("one is left", x, 1);
        due("none without GOERS", new BuriedWithIt().look(), -2);
    }

    private static void gatesAndChances() {
        CHECK.promise("38 gates");
        BuriedWithIt x = plain();
        for (int n = 0; n <= 40; n++) {
            long[] first = firstLocked(n);
            due("gates(" + n + ")", x.gates(n), first.length / 2);
            row("gates(" + n + ")", x, first);
        }
        due("gates(3)", x.gates(3), 1);
        row("the middle one", x, 1, 1);
        due("gates(4)", x.gates(4), 1);
        row("the middle ones", x, 1, 2);
        due("gates(40)", x.gates(40), 1);
        due("gates(41)", x.gates(41), -1);
        due("gates(-1)", x.gates(-1), -1);
        due("refused: the ROW stays", x.count(13), 2);
        due("gates(0)", x.gates(0), 0);
        due("nothing told", x.count(13), 0);
        CHECK.promise("39 goes");
        due("goes", x.goes(0, 1, 5), 0);
        row("one of two", x, 3, 4);
        x.goes(0, 2, 3);
        row("both", x, 9, 100);
        x.goes(0, 3, 10);
        row("more than there are", x, 0, 1);
        x.goes(0, 0, 0);
        row("none or more", x, 1, 1);
        x.goes(0, 1, 0);
        row("never", x, 0, 1);
        x.goes(0, 2, 10);
        row("always", x, 1, 1);
        x.goes(3, 1, 5);
        row("none goes there", x, 0, 1);
        int[][] wrong = {{9, 0, 0}, {-1, 0, 0}, {0, -1, 0}, {0, 7, 0}, {0, 0, -1}, {0, 0, 11}};
        for (int[] w : wrong) {
            due("refused", x.goes(w[0], w[1], w[2]), -1);
        }
        row("the ROW stays", x, 0, 1);
        BuriedWithIt six = Checks.made("11.", SIX);
        six.goes(0, 3, 1);
        // C(6,3) 729 + C(6,4) 81 + C(6,5) 9 + 1 = 14580 + 1215 + 54 + 1 of a million.
        row("three of six", six, 317, 20000);
        CHECK.promise("40 crowd");
        due("crowd", x.crowd(), 0);
        row("crowd", x, 1, 1);
        x.lock(4);
        due("fewer than two", x.crowd(), -2);
        BuriedWithIt y = Checks.made("15.....", "0004;0400;0300;0202");
        due("crowd", y.crowd(), 0);
        // 0 and 1, 0 and 3, 1 and 3, 2 and 3 meet, and 1 comes to 0 where 2 rests; 0 and 2 pass.
        row("crowd", y, 5, 6);
        BuriedWithIt z = Checks.made("15.....", "0001;0304");
        z.crowd();
        row("none meet", z, 0, 1);
    }

    /** By the values of Kayles as they are known: the least gate that leaves two equal halves. */
    private static long[] firstLocked(int n) {
        int[] kayles = {0, 1, 2, 3, 1, 4, 3, 2, 1, 4, 2, 6, 4, 1, 2, 7, 1, 4, 3, 2, 1, 4, 6, 7, 4, 1, 2, 8, 5, 4, 7, 2,
            1, 8, 6, 7, 4, 1, 2, 3, 1};
        for (int at = 0; at < n; at++) {
            for (int many = 1; many <= 2 && at + many <= n; many++) {
                if (kayles[at] == kayles[n - at - many]) {
                    return new long[] {at, many};
                }
            }
        }
        return new long[0];
    }

    private static void rests() {
        CHECK.promise("41 rests");
        BuriedWithIt x = new BuriedWithIt();
        due("rests(0)", x.rests(0), 10);
        row("rests(0)", x, 0, 0);
        due("rests(-1)", x.rests(-1), -1);
        due("rests(21)", x.rests(21), -1);
        row("the ROW stays", x, 0, 0);
        for (int v = 0; v <= 20; v++) {
            Model m = new Model();
            due("rests(" + v + ")", x.rests(v), m.rests(v));
            row("rests(" + v + ")", x, m.row.stream().mapToLong(i -> i).toArray());
        }
    }

    private static void law() {
        CHECK.promise("42 law");
        BuriedWithIt x = plain();
        due("all come", say(x, "1").law(), 1);
        row("all come", x, 3, 2);
        due("none", say(x, "0").law(), -2);
        row("none", x, 0, 2);
        due("the same", say(x, "").law(), 0);
        row("the same", x, 2, 2);
        due("THE RULE stays", x.hard(1, 4), 2);
        say(x, "1").rule();
        due("none: the plain one", say(x, "").law(), -1);
        row("the plain one", x, 2, 3);
        due("a fault", say(x, "1+").law(), -10002);
        due("at the first", say(x, "*").law(), -10000);
        due("41 signs", say(x, times("-", 40) + "1").law(), -10040);
        due("the text is empty", x.count(14), 0);
        row("the ROW stays", x, 2, 3);
    }

    private static void years() {
        CHECK.promise("43 years");
        BuriedWithIt x = plain();
        due("years(1, 0)", x.years(1, 0), -1);
        due("years(1, 41)", x.years(1, 41), -1);
        for (int seed : new int[] {0, 1, -1, 42, Integer.MIN_VALUE, Integer.MAX_VALUE, 123456789}) {
            for (int n : new int[] {1, 2, 5, 40}) {
                Model m = new Model();
                m.text = LAND;
                m.land();
                m.text = GOERS;
                m.goers();
                due("years(" + seed + ", " + n + ")", x.years(seed, n), m.years(seed, n));
                row("years(" + seed + ", " + n + ")", x, m.row.get(0), m.row.get(1));
            }
        }
        // Seed 0: R is 12345, by 65536: 0, a NIGHT.
        due("one NIGHT", x.years(0, 1), 2);
        row("one NIGHT", x, 1, 0);
        due("it is a question", x.count(4), 0);
        due("nor is it undone", x.count(12), 0);
        due("without GOERS", new BuriedWithIt().years(5, 40), 0);
    }

    private static void kept() {
        CHECK.promise("44 keep");
        BuriedWithIt x = plain();
        due("keep(2)", x.keep(2), false);
        due("keep(-1)", x.keep(-1), false);
        x.nights(3);
        due("keep(0)", x.keep(0), true);
        x.lock(1);
        x.build(4, 2);
        x.grant(0, 3);
        x.divert(1, 8);
        due("keep(1)", x.keep(1), true);
        x.nights(2);
        x.use(9);
        due("undone", x.count(12), 6);
        CHECK.promise("45 again");
        due("again(2)", x.again(2), false);
        due("again(-1)", x.again(-1), false);
        due("refused: undo stays", x.count(12), 6);
        due("again(0)", x.again(0), true);
        due("NIGHT", x.count(4), 3);
        due("LOCKED", x.count(5), 0);
        due("KIND", x.field(4, 0), 1);
        due("WORN", x.field(0, 1), 6);
        due("RIGHTS", x.goer(0, 2), 1);
        due("GOAL", x.goer(1, 1), 7);
        due("CAME", x.goer(0, 3), 3);
        due("USE stays", x.count(3), 9);
        due("undo is forgotten", x.undo(), -1);
        due("again(1)", x.again(1), true);
        due("LOCKED", x.count(5), 1);
        due("KIND", x.field(4, 0), 2);
        due("RIGHTS", x.goer(0, 2), 9);
        due("GOAL", x.goer(1, 1), 8);
        due("again(0) a second time", x.again(0), true);
        due("NIGHT", x.count(4), 3);
        due("a refused goers()", say(x, "x").goers(), -1);
        due("still", x.again(0), true);
        say(x, "0000").goers();
        due("GOERS came since", x.again(0), false);
        due("GOERS came since", x.again(1), false);
        x.keep(0);
        due("kept anew", x.again(0), true);
        due("nothing kept", x.again(1), false);
        say(x, "11.").land();
        due("LAND came since", x.again(0), false);
    }

    private static void countAndRow() {
        CHECK.promise("46 count");
        BuriedWithIt x = plain();
        x.nights(2);
        x.lock(8);
        x.print(0, 0);
        x.path(1);
        x.sign(0);
        int[] want = {3, 3, 3, 20, 2, 1, 6, 1, 1, 1, 16, 1, 2, 4, 4};
        for (int what = 0; what < want.length; what++) {
            due("count(" + what + ")", x.count(what), want[what]);
        }
        due("count(-1)", x.count(-1), -1);
        due("count(15)", x.count(15), -1);
        CHECK.promise("47 row");
        due("row(0)", x.row(0), 0);
        due("row(3)", x.row(3), 7);
        CHECK.none("row(4)", () -> x.row(4));
        CHECK.none("row(-1)", () -> x.row(-1));
        CHECK.none("row of a new one", () -> new BuriedWithIt().row(0));
        due("calls that say nothing of it leave it", x.lock(0), 2);
        row("it stays", x, 0, 1, 4, 7);
    }

    public static void main(String[] args) {
        newObject();
        signAndEnd();
        land();
        goers();
        ruleFaults();
        ruleValues();
        fieldAndGoer();
        hardUseSheet();
        nights();
        acts();
        year();
        undo();
        path();
        blockedDetourVital();
        cut();
        frees();
        busiestMeets();
        reachBetterGate();
        ahead();
        prints();
        gatesAndChances();
        rests();
        law();
        years();
        kept();
        countAndRow();
        CHECK.end();
    }
}
