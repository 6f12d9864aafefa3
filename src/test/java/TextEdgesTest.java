/** The boundary cases of texts: promises 2 to 6, 17 and 42. */
public final class TextEdgesTest {
    private static final Checks CHECK = new Checks();
    private static final int MIN = Integer.MIN_VALUE;
    private static final int MAX = Integer.MAX_VALUE;
    private static final String SIX = "0000hbw;0000hbw;0000hbw;0000hbw;0000hbw;0000hbw";

    private interface Reader {
        int read(String text);
    }

    private static void due(String what, long got, long want) {
        CHECK.due(what, got, want);
    }

    private static BuriedWithIt say(BuriedWithIt x, String text) {
        return Checks.say(x, text);
    }

    /** Each of the 256 signs behind a text: those that can stand there, and those that can't, at just that place. */
    private static void signsBehind(String what, String ahead, String can, Reader reader, int fault) {
        for (char c = 0; c < 256; c++) {
            int got = reader.read(ahead + c);
            if (can.indexOf(c) < 0) {
                due(what + ": sign " + (int) c + " behind '" + ahead + "'", got, fault - ahead.length());
            } else {
                due(what + ": sign " + (int) c + " can stand behind '" + ahead + "'",
                        got == fault - ahead.length() ? 1 : 0, 0);
            }
        }
    }

    private static void sign() {
        CHECK.promise("2 sign: four signs, more than 80 are refused");
        BuriedWithIt x = new BuriedWithIt();
        due("the first four", x.sign(0), 4);
        for (int n = 8; n <= 80; n += 4) {
            due("the next four", x.sign(MIN), n);
        }
        for (int left = 77; left <= 80; left++) {
            BuriedWithIt y = say(new BuriedWithIt(), "x".repeat(left));
            due("behind " + left, y.sign(0), -1);
            due("behind " + left + " they stay", y.count(14), left);
        }
        due("behind 76", say(new BuriedWithIt(), "x".repeat(76)).sign(0), 80);
        due("behind 75", say(new BuriedWithIt(), "x".repeat(75)).sign(0), 79);
        CHECK.promise("2 sign: the highest byte first, ends of int");
        BuriedWithIt y = new BuriedWithIt();
        y.sign(0x32312E68);
        due("21.h", y.land(), 2);
        due("the third sign", y.field(0, 0), 0);
        due("the fourth sign", y.field(1, 0), 1);
        int[] ends = {MIN, -1, 0, 1, MAX};
        for (int v : ends) {
            due("sign(" + v + ")", y.sign(v), 4);
            due("none of them can stand there", y.land(), -1);
        }
        y.sign(0x31313100 | 0x2E);
        due("a byte is a sign of its own", y.land(), -3);
        CHECK.promise("2 sign: behind THE TEXT");
        y.sign(0x32310000);
        y.end(2);
        due("six signs", y.sign(0x77620000), 6);
        y.end(4);
        due("21wb", y.land(), 2);
        due("w", y.field(0, 0), 3);
        due("b", y.field(1, 0), 2);
    }

    private static void end() {
        CHECK.promise("3 end: false if it has not so many, or n is below 0");
        BuriedWithIt x = new BuriedWithIt();
        due("end(0) of none", x.end(0) ? 1 : 0, 1);
        due("end(1) of none", x.end(1) ? 1 : 0, 0);
        due("end(-1) of none", x.end(-1) ? 1 : 0, 0);
        x.sign(0x31312E2E);
        int[] none = {MIN, -1, 5, 80, 81, MAX};
        for (int n : none) {
            due("end(" + n + ") of 4", x.end(n) ? 1 : 0, 0);
            due("4 stay", x.count(14), 4);
        }
        for (int n = 4; n >= 0; n--) {
            due("end(" + n + ")", x.end(n) ? 1 : 0, 1);
            due("so many are left", x.count(14), n);
            due("not one more", x.end(n + 1) ? 1 : 0, 0);
        }
        CHECK.promise("3 end: the first n signs");
        x.sign(0x31312E78);
        x.end(3);
        due("11.", x.land(), 1);
        BuriedWithIt full = say(new BuriedWithIt(), "x".repeat(80));
        due("end(80) of 80", full.end(80) ? 1 : 0, 1);
        due("end(81) of 80", full.end(81) ? 1 : 0, 0);
        due("end(79) of 80", full.end(79) ? 1 : 0, 1);
    }

    private static int landOf(String text) {
        return say(new BuriedWithIt(), text).land();
    }

    private static void land() {
        CHECK.promise("4 land: two digits (1 .. 6)");
        signsBehind("ROWS", "", "123456", TextEdgesTest::landOf, -1);
        signsBehind("COLUMNS", "1", "123456", TextEdgesTest::landOf, -1);
        CHECK.promise("4 land: . h b w");
        signsBehind("the first FIELD", "12", ".hbw", TextEdgesTest::landOf, -1);
        signsBehind("the last FIELD", "12.", ".hbw", TextEdgesTest::landOf, -1);
        CHECK.promise("4 land: its end, if it ends too early; one too many: at it");
        due("empty", landOf(""), -1);
        for (int rows = 1; rows <= 6; rows++) {
            due("one digit", landOf("" + rows), -2);
            for (int columns = 1; columns <= 6; columns++) {
                int size = rows * columns;
                String text = "" + rows + columns + ".".repeat(size);
                due(text, landOf(text), size);
                due("one too few of " + text, landOf(text.substring(0, size + 1)), -1 - (size + 1));
                due("none of " + text, landOf(text.substring(0, 2)), -3);
                due("one too many for " + text, landOf(text + "."), -1 - (size + 2));
                due("another one too many for " + text, landOf(text + "x"), -1 - (size + 2));
                due("80 signs for " + text, landOf(text + ".".repeat(78 - size)), -1 - (size + 2));
                due("a wrong one at the end of " + text, landOf(text.substring(0, size + 1) + "x"), -1 - (size + 1));
            }
        }
        CHECK.promise("4 land: how many FIELDS, by rows");
        BuriedWithIt x = Checks.made("23.hbwhb", "");
        int[] kinds = {0, 1, 2, 3, 1, 2};
        for (int f = 0; f < 6; f++) {
            due("KIND of " + f, x.field(f, 0), kinds[f]);
        }
        BuriedWithIt full = Checks.made("66" + "w".repeat(36), "");
        due("the last of 36", full.field(35, 0), 3);
        due("all 36", full.count(9), 36);
        BuriedWithIt less = say(full, "11h");
        less.land();
        due("one is left", less.count(9) + 10 * less.count(7), 10);
    }

    private static BuriedWithIt used() {
        BuriedWithIt x = Checks.made("22....", "0011;0101");
        x.nights(2);
        x.lock(2);
        x.keep(0);
        x.keep(1);
        x.print(0, 1);
        return x;
    }

    private static BuriedWithIt anew() {
        BuriedWithIt x = say(used(), "22....");
        x.land();
        return x;
    }

    private static void landAnew() {
        CHECK.promise("4 land: nothing is WORN");
        due("count(10)", used().count(10), 8);
        due("WORN of all", anew().count(10), 0);
        due("WORN", anew().field(0, 1), 0);
        CHECK.promise("4 land: nothing is LOCKED");
        due("LOCKED", anew().count(5), 0);
        due("LOCKED", anew().field(2, 2), 0);
        CHECK.promise("4 land: there are no GOERS");
        due("GOERS", anew().count(2), 0);
        due("path", anew().path(0), -1);
        CHECK.promise("4 land: NIGHT is 0");
        due("NIGHT", anew().count(4), 0);
        CHECK.promise("4 land: nothing can be undone");
        due("undone", anew().count(12), 0);
        due("undo", anew().undo(), -1);
        CHECK.promise("4 land: nothing is kept");
        due("again(0)", anew().again(0) ? 1 : 0, 0);
        due("again(1)", anew().again(1) ? 1 : 0, 0);
        CHECK.promise("4 land: no prints were found");
        due("prints", anew().count(11), 0);
        due("forget", anew().forget(), 0);
        BuriedWithIt x = anew();
        say(x, "1111").goers();
        due("the old prints are gone", x.fits(), 1);
        x = used();
        x.print(3, 0);
        say(x, "22....").land();
        say(x, "0011").goers();
        due("the old prints of nobody are gone", x.fits(), 1);
        CHECK.promise("Terms: CAME and MISSED at first 0");
        BuriedWithIt y = used();
        due("CAME ahead", y.goer(0, 3), 2);
        y.build(1, 3);
        y.nights(1);
        due("MISSED ahead", y.goer(1, 4), 1);
        say(y, "22....").land();
        say(y, "0011;0101").goers();
        for (int g = 0; g < 2; g++) {
            due("CAME", y.goer(g, 3), 0);
            due("MISSED", y.goer(g, 4), 0);
        }
    }

    private static int goersOf(String text) {
        BuriedWithIt x = Checks.made("25..........", "");
        int got = say(x, text).goers();
        due("GOERS then", x.count(2), Math.max(0, got));
        return got;
    }

    private static void goers() {
        CHECK.promise("5 goers: a ROW or COLUMN that LAND has not: at it");
        signsBehind("ROW of FROM", "", "01", TextEdgesTest::goersOf, -1);
        signsBehind("COLUMN of FROM", "0", "01234", TextEdgesTest::goersOf, -1);
        signsBehind("ROW of GOAL", "04", "01", TextEdgesTest::goersOf, -1);
        signsBehind("COLUMN of GOAL", "041", "01234", TextEdgesTest::goersOf, -1);
        signsBehind("ROW in the second LINE", "0413h;", "01", TextEdgesTest::goersOf, -1);
        signsBehind("COLUMN in the second LINE", "0413h;1", "01234", TextEdgesTest::goersOf, -1);
        due("the last ROW and COLUMN", goersOf("1414"), 1);
        CHECK.promise("5 goers: letters of h b w in this order");
        signsBehind("behind GOAL", "0000", "hbw;", TextEdgesTest::goersOf, -1);
        signsBehind("behind h", "0000h", "bw;", TextEdgesTest::goersOf, -1);
        signsBehind("behind b", "0000b", "w;", TextEdgesTest::goersOf, -1);
        signsBehind("behind hb", "0000hb", "w;", TextEdgesTest::goersOf, -1);
        signsBehind("behind w", "0000w", ";", TextEdgesTest::goersOf, -1);
        signsBehind("behind hbw", "0000hbw", ";", TextEdgesTest::goersOf, -1);
        String[] rights = {"", "h", "b", "hb", "w", "hw", "bw", "hbw"};
        for (int i = 0; i < 8; i++) {
            BuriedWithIt x = Checks.made("25..........", "0000" + rights[i]);
            due("RIGHTS " + rights[i], x.goer(0, 2), 2 * i + 1);
        }
        CHECK.promise("5 goers: its end, if it ends too early");
        String line = "0413";
        for (int n = 1; n < 4; n++) {
            due(n + " signs", goersOf(line.substring(0, n)), -1 - n);
            due(n + " signs of a second LINE", goersOf("0000;" + line.substring(0, n)), -1 - (n + 5));
        }
        due("; at its end", goersOf("0413;"), -6);
        due("an empty LINE", goersOf("0413;;0413"), -6);
        due("an empty first LINE", goersOf(";0413"), -1);
        CHECK.promise("5 goers: an empty one: nothing");
        due("empty", goersOf(""), 0);
        BuriedWithIt full = Checks.made("11.", SIX);
        due("empty, without room", say(full, "").goers(), 0);
        due("six stay", full.count(2), 6);
    }

    private static void goersRoom() {
        CHECK.promise("5 goers: the first sign of a LINE for which there is no room (six at most)");
        for (int there = 0; there <= 6; there++) {
            for (int more = 1; more <= 8; more++) {
                BuriedWithIt x = Checks.made("11.", "0000;".repeat(there).substring(0, Math.max(0, 5 * there - 1)));
                String text = "0000;".repeat(more).substring(0, 5 * more - 1);
                boolean room = there + more <= 6;
                due(more + " with " + there, say(x, text).goers(), room ? more : -1 - 5 * (6 - there));
                due("GOERS then", x.count(2), room ? there + more : there);
            }
        }
        for (String first : new String[] {"0", "x", ";", "9999"}) {
            due("no room for " + first, say(Checks.made("11.", SIX), first).goers(), -1);
        }
        CHECK.promise("5 goers: nothing of it comes, if a LINE can't");
        BuriedWithIt y = Checks.made("12..", "0001");
        due("the second can't", say(y, "0001h;0002").goers(), -10);
        due("one stays", y.count(2), 1);
        due("who comes then is the next one", say(y, "0100w").goers(), 1);
        due("FROM", y.goer(1, 0), 1);
        due("RIGHTS", y.goer(1, 2), 9);
        CHECK.promise("5 goers: 47 signs");
        due("47 signs", say(Checks.made("11.", ""), SIX).goers(), 6);
        for (String more : new String[] {"x", ";", "0", "h", ";0000", "x".repeat(33)}) {
            BuriedWithIt x = Checks.made("11.", "");
            due("47 and " + more, say(x, SIX + more).goers(), -48);
            due("none came", x.count(2), 0);
        }
        for (int p = 0; p < 47; p++) {
            String text = SIX.substring(0, p) + "x" + SIX.substring(p + 1) + ";";
            due("a fault ahead of the 47th at " + p, say(Checks.made("11.", ""), text).goers(), -1 - p);
        }
        for (int n = 1; n < 47; n++) {
            int want = n % 8 >= 4 ? n / 8 + 1 : -1 - n;
            due("the first " + n, say(Checks.made("11.", ""), SIX.substring(0, n)).goers(), want);
        }
    }

    private static int ruleOf(String text) {
        int rule = say(new BuriedWithIt(), text).rule();
        int law = say(new BuriedWithIt(), text).law();
        due("law() as rule() of " + text, law, rule == 0 ? 0 : -9999 + rule);
        return rule;
    }

    private static void rule() {
        String things = "0123456789krowni-(";
        CHECK.promise("6 rule: things");
        signsBehind("at first", "", things, TextEdgesTest::ruleOf, -1);
        for (String ahead : new String[] {"-", "(", "1+", "1-", "1*", "1/", "1<", "1>", "1=", "1<2+", "--", "(1<2)<"}) {
            signsBehind("a thing", ahead, things, TextEdgesTest::ruleOf, -1);
        }
        CHECK.promise("6 rule: a NUMBER of 1 to 3 digits");
        signsBehind("behind 1", "1", "0123456789+-*/<>=", TextEdgesTest::ruleOf, -1);
        signsBehind("behind 12", "12", "0123456789+-*/<>=", TextEdgesTest::ruleOf, -1);
        signsBehind("behind 123", "123", "+-*/<>=", TextEdgesTest::ruleOf, -1);
        signsBehind("behind 000", "000", "+-*/<>=", TextEdgesTest::ruleOf, -1);
        signsBehind("behind 1+123", "1+123", "+-*/<>=", TextEdgesTest::ruleOf, -1);
        for (char letter : "krowni".toCharArray()) {
            signsBehind("behind a letter", "" + letter, "+-*/<>=", TextEdgesTest::ruleOf, -1);
        }
        signsBehind("behind )", "(1)", "+-*/<>=", TextEdgesTest::ruleOf, -1);
        CHECK.promise("6 rule: < > = not one behind the other");
        for (String one : new String[] {"1<2", "1>2", "1=2", "1+1<k", "(1<2)=(2<3)", "1<2+3*4", "1<-2"}) {
            String digits = one.endsWith("2") || one.endsWith("4") ? "0123456789" : "";
            signsBehind("behind " + one, one, digits + "+-*/", TextEdgesTest::ruleOf, -1);
        }
        signsBehind("in ( ) anew", "1<(2", "0123456789+-*/<>=)", TextEdgesTest::ruleOf, -1);
        signsBehind("in ( ) once", "(1<2", "0123456789+-*/)", TextEdgesTest::ruleOf, -1);
        signsBehind("behind ( )", "1<(2<3)", "+-*/", TextEdgesTest::ruleOf, -1);
        signsBehind("behind the first ( )", "(1<2)", "+-*/<>=", TextEdgesTest::ruleOf, -1);
        CHECK.promise("6 rule: at most 4 in one another");
        signsBehind("the fourth (", "(((", things, TextEdgesTest::ruleOf, -1);
        signsBehind("no fifth (", "((((", things.replace("(", ""), TextEdgesTest::ruleOf, -1);
        signsBehind("no fifth ( behind others", "((((1))))+((((", things.replace("(", ""), TextEdgesTest::ruleOf, -1);
        signsBehind("a fourth again", "(((1)+((1)+", things, TextEdgesTest::ruleOf, -1);
        signsBehind("no fifth ( behind one that is closed", "(((1)+((", things.replace("(", ""), TextEdgesTest::ruleOf, -1);
        due("four", ruleOf("((((1))))"), 0);
        due("four again and again", ruleOf("((((1))))+((((1))))+((((1))))"), 0);
        due("five", ruleOf("(((((1)))))"), -5);
        CHECK.promise("6 rule: its end, if it ends too early");
        String[] early = {"-", "(", "1+", "1<", "(1", "((1)", "1*-", "((((", "1+(", "1+(k<"};
        for (String text : early) {
            due(text, ruleOf(text), -1 - text.length());
        }
        due("one ) too many", ruleOf("(1))"), -4);
        due("( ) without a thing", ruleOf("()"), -2);
        due("an empty one: none", ruleOf(""), 0);
    }

    private static void ruleLength() {
        CHECK.promise("6 rule: 40 signs");
        String forty = "1+".repeat(19) + "12";
        due("40", ruleOf(forty), 0);
        due("39", ruleOf(forty.substring(0, 39)), 0);
        due("the 38th is its end", ruleOf(forty.substring(0, 38)), -39);
        for (String more : new String[] {"3", "x", "+", ")", "+1", " ".repeat(40)}) {
            due("40 and " + more, ruleOf(forty + more), -41);
        }
        due("40 that could go on", ruleOf("1+".repeat(20) + "1"), -41);
        due("40 that end too early", ruleOf("1+".repeat(20)), -41);
        due("40 of 80", ruleOf("-".repeat(80)), -41);
        due("39 -", ruleOf("-".repeat(39) + "1"), 0);
        due("40 -", ruleOf("-".repeat(40) + "1"), -41);
        due("( open at the 40th", ruleOf("1+".repeat(18) + "((1+1))"), -41);
        due(") is the 40th", ruleOf("1+".repeat(16) + "-((1+1))"), 0);
        for (int p = 0; p < 40; p++) {
            String text = forty.substring(0, p) + "x" + forty.substring(p + 1) + "3";
            due("a fault ahead of the 40th at " + p, ruleOf(text), -1 - p);
        }
    }

    /** How HARD the FIELD 1 (a house, LOCKED, WORN as told) is by a rule for GOER 0, who has no RIGHT for it. */
    private static int hardBy(String text, int worn, int night) {
        BuriedWithIt x = Checks.made("12.b", "0001");
        x.use(99);
        x.lock(1);
        x.nights(Math.min(60, night));
        x.nights(Math.max(0, night - 60));
        x.sheet(2, 2, worn, 0);
        due("rule " + text, say(x, text).rule(), 0);
        return x.hard(0, 1);
    }

    private static void values() {
        CHECK.promise("Terms, THE RULE: below 1: it can't go on that FIELD; 99 at most");
        String[] texts = {"1", "0", "-1", "0-0", "98", "99", "100", "999", "999*999", "1/2", "2/2", "-1/2", "99+0", "99+1"};
        int[] want = {1, 0, 0, 0, 98, 99, 99, 99, 99, 0, 1, 0, 99, 99};
        for (int i = 0; i < texts.length; i++) {
            due(texts[i], hardBy(texts[i], 0, 0), want[i]);
        }
        CHECK.promise("Terms, THE RULE: as ints");
        // 512*512*512*16 is 2 to the 31st: the least int.
        String[] wraps = {"512*512*512*16", "512*512*512*16-1", "-(512*512*512*16)", "512*512*512*16=-(512*512*512*16)",
            "(512*512*512*16-1+1)<0", "(512*512*512*16)/-1<0", "512*512*512*16/-1=512*512*512*16", "512*512*512*32+5",
            "512*512*512*16+512*512*512*16+7", "(512*512*512*16)/2<0", "0-512*512*512*16<0", "-(512*512*512*16-1)<0",
            "512*512*512*16*-1<0", "1>512*512*512*16", "512*512*512*16-1>0", "512*512*512*16*3/512/512/512/16+9"};
        int[] due = {0, 99, 0, 1, 1, 1, 1, 5, 7, 1, 1, 1, 1, 1, 1, 8};
        for (int i = 0; i < wraps.length; i++) {
            due(wraps[i], hardBy(wraps[i], 0, 0), due[i]);
        }
        CHECK.promise("Terms, THE RULE: / by 0: 0; cut to 0");
        String[] parts = {"5/0+3", "0/0+3", "5/(1-1)+3", "-5/0+3", "5/w+3", "(512*512*512*16)/0+3", "7/2", "-7/2+9",
            "7/-2+9", "-7/-2", "1/2+1", "-1/2+1", "0/5+1", "99/100+1", "100/99", "8/2/2", "8/(2/2)"};
        int[] whole = {3, 3, 3, 3, 3, 3, 3, 6, 6, 3, 1, 1, 1, 1, 1, 2, 8};
        for (int i = 0; i < parts.length; i++) {
            due(parts[i], hardBy(parts[i], 0, 0), whole[i]);
        }
        CHECK.promise("Terms, THE RULE: < > = at their edges");
        String[] edges = {"4<5", "5<5", "6<5", "4>5", "5>5", "6>5", "4=5", "5=5", "6=5", "(-1<0)+1", "(0<-1)+1",
            "(1<2)+(2>1)+(3=3)"};
        int[] is = {1, 0, 0, 0, 0, 1, 0, 1, 0, 2, 1, 3};
        for (int i = 0; i < edges.length; i++) {
            due(edges[i], hardBy(edges[i], 0, 0), is[i]);
        }
    }

    private static void binding() {
        CHECK.promise("Terms, THE RULE: what binds least");
        String[] texts = {"1+2<4", "4>1+2", "3=1+2", "2*3<7", "2+3*4", "2*3+4", "20-5-3", "20-(5-3)", "48/4/3", "24/4*3",
            "2*9/4", "9/4*2", "-2+5", "-2*-3", "3- -1", "3--1", "3---1", "-(2-5)", "-2-2<0", "2<-1+4", "1+(1<2)", "1+1<2+1"};
        int[] want = {1, 1, 1, 1, 14, 10, 12, 18, 4, 18, 4, 4, 3, 6, -4, 4, 2, 3, 1, 1, 2, 1};
        for (int i = 0; i < texts.length; i++) {
            if (want[i] < 0) {
                due(texts[i], ruleOf(texts[i]), -3);
            } else {
                due(texts[i], hardBy(texts[i], 0, 0), want[i]);
            }
        }
        CHECK.promise("Terms, THE RULE: k r o w n i");
        due("k", hardBy("k", 0, 0), 2);
        due("r without", hardBy("r+3", 0, 0), 3);
        due("o", hardBy("o+3", 0, 0), 4);
        for (int worn : new int[] {0, 1, 98, 99}) {
            due("w", hardBy("w", worn, 0), worn);
        }
        for (int night : new int[] {0, 1, 6, 7, 8, 13, 14, 69, 70, 71}) {
            due("n at NIGHT " + night, hardBy("n", 0, night), night % 7);
        }
        BuriedWithIt x = Checks.made("22.hbw", SIX.replace("hbw", "hb"));
        say(x, "i+10").rule();
        for (int g = 0; g < 6; g++) {
            due("i of " + g, x.hard(g, 0), 10 + g);
        }
        say(x, "10*(r+1)+k").rule();
        int[] of = {20, 21, 22, 13};
        for (int f = 0; f < 4; f++) {
            due("r and k of KIND " + f, x.hard(5, f), of[f]);
        }
        say(x, "o+5").rule();
        due("o of one that is not LOCKED", x.hard(0, 3), 5);
        CHECK.promise("Terms, THE RULE: none: r*(1-o)*(1+k)");
        say(x, "").rule();
        int[] plain = {1, 2, 3, 0};
        for (int f = 0; f < 4; f++) {
            due("KIND " + f, x.hard(0, f), plain[f]);
            x.lock(f);
            due("LOCKED", x.hard(0, f), 0);
        }
    }

    private static int yearOf(String text) {
        BuriedWithIt x = Checks.made("25..........", "0000;1414");
        int got = say(x, text).year();
        if (got < 0) {
            due("nothing is done by " + text, x.count(12) + x.count(4) + x.count(5) + x.count(13), 0);
        }
        due("THE TEXT is empty", x.count(14), 0);
        return got;
    }

    private static void year() {
        String digit = "0123456789";
        String act = "nlbgd";
        CHECK.promise("17 year: ACTS");
        signsBehind("an ACT", "", act, TextEdgesTest::yearOf, -1);
        for (String ahead : new String[] {"n1", "l00", "b000", "g01", "d001"}) {
            signsBehind("a next ACT", ahead, act, TextEdgesTest::yearOf, -1);
        }
        CHECK.promise("17 year: digits");
        signsBehind("n", "n", digit, TextEdgesTest::yearOf, -1);
        signsBehind("l ROW", "l", digit, TextEdgesTest::yearOf, -1);
        signsBehind("l COLUMN", "l0", digit, TextEdgesTest::yearOf, -1);
        signsBehind("b ROW", "b", digit, TextEdgesTest::yearOf, -1);
        signsBehind("b COLUMN", "b0", digit, TextEdgesTest::yearOf, -1);
        signsBehind("g GOER", "g", digit, TextEdgesTest::yearOf, -1);
        signsBehind("d GOER", "d", digit, TextEdgesTest::yearOf, -1);
        signsBehind("d ROW", "d0", digit, TextEdgesTest::yearOf, -1);
        signsBehind("d COLUMN", "d00", digit, TextEdgesTest::yearOf, -1);
        CHECK.promise("17 year: a digit 0 .. 3 (build())");
        signsBehind("b KIND", "b00", "0123", TextEdgesTest::yearOf, -1);
        CHECK.promise("17 year: a digit 1 .. 3 (grant())");
        signsBehind("g KIND", "g0", "123", TextEdgesTest::yearOf, -1);
        CHECK.promise("17 year: its end, if it ends too early");
        for (String text : new String[] {"n", "l", "l0", "b", "b0", "b00", "g", "g0", "d", "d0", "d00", "n1n", "l00l0"}) {
            due(text, yearOf(text), -1 - text.length());
        }
        CHECK.promise("17 year: 60 signs");
        String sixty = "l00".repeat(20);
        due("60", yearOf(sixty), 20);
        due("59", yearOf("l00".repeat(19) + "n1"), 20);
        due("the 59th is its end", yearOf(sixty.substring(0, 59)), -60);
        for (String more : new String[] {"n", "n1", "x", "0", "x".repeat(20)}) {
            due("60 and " + more, yearOf(sixty + more), -61);
        }
        due("60 that could go on", yearOf("l00".repeat(19) + "n1n1"), -61);
        due("60 that end too early", yearOf("l00".repeat(19) + "n1n"), -61);
        for (int p = 0; p < 60; p++) {
            due("a fault ahead of the 60th at " + p, yearOf(sixty.substring(0, p) + "x" + sixty.substring(p + 1) + "n"),
                    -1 - p);
        }
    }

    private static void till(String text, int done, int failed, int night) {
        BuriedWithIt x = Checks.made("25..........", "0000;1414");
        due(text, say(x, text).year(), done);
        CHECK.row(text, x, failed, night);
        due(text + ": what can be undone", x.count(12), done > 0 ? 1 : 0);
        due(text + ": NIGHT", x.count(4), night);
    }

    private static void yearTill() {
        CHECK.promise("17 year: till one can't be");
        till("", 0, 0, 0);
        till("n1", 1, 0, 1);
        till("n0", 1, 0, 0);
        till("n9n9n9n9n9n9n9n9n9n9n9n9n9n9n9n9n9n9n9n9n9n9n9n9n9n9n9n9n9n9", 30, 0, 270);
        till("l14", 1, 0, 0);
        till("l24", 0, 1, 0);
        till("l15", 0, 1, 0);
        till("l99", 0, 1, 0);
        till("n1l24n1", 1, 1, 1);
        till("b143", 1, 0, 0);
        till("b243", 0, 1, 0);
        till("b153", 0, 1, 0);
        till("g11", 1, 0, 0);
        till("g21", 0, 1, 0);
        till("g91n5", 0, 1, 0);
        till("d113", 1, 0, 0);
        till("d114", 0, 1, 0);
        till("d213", 0, 1, 0);
        till("d124", 0, 1, 0);
        till("d115", 0, 1, 0);
        till("d113d113", 1, 1, 0);
        till("l00l01l02l03l04l10l11l12", 8, 0, 0);
        till("l00l01l02l03l04l10l11l12l13n1", 8, 1, 0);
        till("l00l01l02l03l04l10l11l12l12l13n1", 11, 0, 1);
        till("b001b001", 2, 0, 0);
        CHECK.promise("17 year: done one by one, as one");
        BuriedWithIt x = Checks.made("25..........", "0000;1414");
        due("year", say(x, "n2l01b043g12d100n1l24n5").year(), 6);
        CHECK.row("year", x, 1, 3);
        due("LOCKED", x.field(1, 2), 1);
        due("KIND", x.field(4, 0), 3);
        due("RIGHTS", x.goer(1, 2), 5);
        due("GOAL", x.goer(1, 1), 0);
        due("undo", x.undo(), 0);
        due("LOCKED", x.field(1, 2), 0);
        due("KIND", x.field(4, 0), 0);
        due("RIGHTS", x.goer(1, 2), 1);
        due("GOAL", x.goer(1, 1), 9);
        due("NIGHT", x.count(4), 0);
        due("CAME", x.goer(0, 3), 0);
    }

    private static void law() {
        CHECK.promise("42 law: -10000 - p");
        due("at 0", say(new BuriedWithIt(), "*").law(), -10000);
        due("at 1", say(new BuriedWithIt(), "-").law(), -10001);
        due("at 39", say(new BuriedWithIt(), "-".repeat(39) + "*").law(), -10039);
        due("at 40", say(new BuriedWithIt(), "-".repeat(41)).law(), -10040);
        CHECK.promise("42 law: below 0, too; an empty one: none");
        BuriedWithIt x = Checks.made("11.", SIX);
        due("all less all", say(x, "").law(), 0);
        CHECK.row("all less all", x, 6, 6);
        due("none less all", say(x, "0").law(), -6);
        CHECK.row("none less all", x, 0, 6);
        due("some less all", say(x, "i>2").law(), -3);
        CHECK.row("some less all", x, 3, 6);
        say(x, "-1").rule();
        due("all less none", say(x, "").law(), 6);
        CHECK.row("all less none", x, 6, 0);
        due("THE RULE stays", x.hard(0, 0), 0);
        BuriedWithIt none = new BuriedWithIt();
        due("without GOERS", say(none, "1").law(), 0);
        CHECK.row("without GOERS", none, 0, 0);
    }

    /** THE TEXT by just these signs, of which the first n are left: what was behind them is not seen any more. */
    private static BuriedWithIt cutText(BuriedWithIt x, String text, int n) {
        x.end(0);
        for (int p = 0; p < text.length(); p += 4) {
            x.sign(text.charAt(p) << 24 | text.charAt(p + 1) << 16 | text.charAt(p + 2) << 8 | text.charAt(p + 3));
        }
        due("end(" + n + ") of " + text, x.end(n) ? 1 : 0, 1);
        return x;
    }

    private static void cutTexts() {
        CHECK.promise("3 end: its first n signs alone, for each reader");
        int[] lands = {-1, -2, -3, -4, -5, -6, 4, -7, -7};
        for (int n = 0; n < lands.length; n++) {
            due("land of " + n, cutText(new BuriedWithIt(), "22......", n).land(), lands[n]);
        }
        int[] goers = {0, -2, -3, -4, 1, 1, 1, 1, -9, -10, -11, -12, 2};
        for (int n = 0; n < goers.length; n++) {
            BuriedWithIt x = Checks.made("11.", "");
            due("goers of " + n, cutText(x, "0000hbw;0000", n).goers(), goers[n]);
            if (n >= 4 && n <= 7) {
                due("RIGHTS of " + n, x.goer(0, 2), 2 * (1 << (n - 4)) - 1);
            }
        }
        // The first n signs of 12+3*4/k: an early end, or what they are together.
        int[] rules = {1, 1, 12, 0, 15, 0, 24, 0, 12};
        for (int n = 0; n < rules.length; n++) {
            BuriedWithIt x = Checks.made("11.", "0000");
            due("rule of " + n, cutText(x, "12+3*4/k", n).rule(), rules[n] == 0 ? -1 - n : 0);
            due("hard of " + n, x.hard(0, 0), Math.max(1, rules[n]));
            x.lock(0);
            due("hard of " + n + ", LOCKED", x.hard(0, 0), n == 0 || rules[n] == 0 ? 0 : rules[n]);
        }
        int[] years = {0, -2, 1, -4, -5, 2, -7, -8, -9, 3, -11, 4};
        for (int n = 0; n < years.length; n++) {
            due("year of " + n, cutText(Checks.made("11.", "0000"), "n1l00b001n1n", n).year(), years[n]);
        }
        due("land is not read to the end of an earlier text", landAfter("22....", "22.."), -5);
    }

    /** One object reads all of them: a fault leaves nothing behind that the next one would find. */
    private static void oneBehindTheOther() {
        CHECK.promise("6 rule: behind a fault");
        BuriedWithIt x = Checks.made("11.", "0000");
        String[] texts = {"((((", "((((1))))", "1<2<3", "1<2", "(((1<2", "(((1<2)))", "1+(2<", "1<2", "12x", "3+4", "-", "5",
            "1*(2+3", "2*3+4", "", "(1<2)<3", "1<(2<3)", "((1<2)", "((1<2)<3)"};
        int[] want = {-5, 0, -4, 0, -7, 0, -6, 0, -3, 0, -2, 0, -7, 0, 0, 0, 0, -7, 0};
        int[] hard = {1, 1, 1, 1, 1, 1, 1, 1, 1, 7, 7, 5, 5, 10, 1, 1, 0, 0, 1};
        for (int i = 0; i < texts.length; i++) {
            due("law " + texts[i], say(x, texts[i]).law() <= -10000 ? 1 : 0, want[i] < 0 ? 1 : 0);
            due("rule " + texts[i], say(x, texts[i]).rule(), want[i]);
            due("hard then", x.hard(0, 0), hard[i]);
        }
    }

    private static int landAfter(String first, String second) {
        BuriedWithIt x = Checks.made(first, "");
        x.sign(second.charAt(0) << 24 | second.charAt(1) << 16 | second.charAt(2) << 8 | second.charAt(3));
        return x.land();
    }

    public static void main(String[] args) {
        sign();
        end();
        land();
        landAnew();
        goers();
        goersRoom();
        rule();
        ruleLength();
        values();
        binding();
        year();
        yearTill();
        law();
        cutTexts();
        oneBehindTheOther();
        CHECK.end();
    }
}
