import java.util.NoSuchElementException;
import java.util.Random;

/** Runs of calls drawn by a seed, on BuriedWithIt and on Model: every answer, and all that can be asked, must agree. */
public final class RandomRunsTest {
    private static final String[] RULES = {"", "1", "k+1", "1+w", "w/3+1", "r*(1-o)*(1+k)*(9-w/11)", "n+1", "n-i",
        "(w<30)*(1+k)", "1-o+r", "r*(1+o)", "9-8*r+o*40", "o+(k=0)", "--1+-k*-2", "w*w*w*w*w*w", "(1-o)*(1+(i>1)*k)",
        "5/(k-1)+1", "999999", "((((k))))+1", "1+2<3*4", "r-(n=3)", "2-w/20", "7/-2+5", "(n>2)*(k<2)*(1-o)+r*(1-o)"};
    private static final String RULE_SIGNS = "krowni0129+-*/<>=()-()1kwx ";
    private final Random random;
    private final long seed;
    private final BuriedWithIt real = new BuriedWithIt();
    private final Model model = new Model();
    private final StringBuilder story = new StringBuilder();

    private RandomRunsTest(long seed) {
        this.seed = seed;
        random = new Random(seed);
    }

    private interface Call {
        long of();
    }

    private static final long THROWN = Long.MIN_VALUE + 7;

    private static long answer(Call call) {
        try {
            return call.of();
        } catch (NoSuchElementException e) {
            return THROWN;
        }
    }

    private void same(String what, Call one, Call other) {
        story.append(what).append('\n');
        long got = answer(one);
        long want = answer(other);
        if (got != want) {
            fail(what + " answered " + got + ", the model " + want);
        }
    }

    private void fail(String why) {
        String all = story.toString();
        System.out.println("seed " + seed + ":\n" + all.substring(Math.max(0, all.length() - 4000)) + why);
        System.exit(1);
    }

    private int draw(int low, int high) {
        return low + random.nextInt(high - low + 1);
    }

    private void say(String text) {
        story.append("text ").append(text).append('\n');
        Checks.say(real, text);
        model.text = text;
    }

    private String pick(String signs) {
        return "" + signs.charAt(random.nextInt(signs.length()));
    }

    /** A text a little off, now and then. */
    private String spoilt(String text, String signs) {
        if (random.nextInt(6) > 0) {
            return text;
        }
        StringBuilder b = new StringBuilder(text);
        switch (random.nextInt(3)) {
            case 0:
                b.setLength(random.nextInt(b.length() + 1));
                break;
            case 1:
                b.insert(random.nextInt(b.length() + 1), pick(signs));
                break;
            default:
                if (b.length() > 0) {
                    b.setCharAt(random.nextInt(b.length()), pick(signs).charAt(0));
                }
        }
        return b.length() > 80 ? b.substring(0, 80) : b.toString();
    }

    private String someLand() {
        int rows = draw(1, 6);
        int columns = draw(1, 6);
        StringBuilder b = new StringBuilder().append(rows).append(columns);
        String signs = new String[] {".", "..h", ".hbw", "....hhbw", "......w", "h..b.."}[random.nextInt(6)];
        for (int i = 0; i < rows * columns; i++) {
            b.append(pick(signs));
        }
        return b.toString();
    }

    private String someGoers() {
        StringBuilder b = new StringBuilder();
        int many = draw(1, random.nextInt(4) == 0 ? 8 : 4);
        for (int i = 0; i < many && b.length() < 70; i++) {
            b.append(i > 0 ? ";" : "");
            for (int j = 0; j < 4; j++) {
                b.append(random.nextInt(j % 2 == 0 ? model.rows : model.columns));
            }
            for (String right : new String[] {"h", "b", "w"}) {
                b.append(random.nextInt(3) == 0 ? right : "");
            }
        }
        return b.toString();
    }

    private String someRule() {
        if (random.nextInt(3) > 0) {
            return RULES[random.nextInt(RULES.length)];
        }
        StringBuilder b = new StringBuilder();
        int many = draw(0, random.nextInt(3) == 0 ? 45 : 12);
        for (int i = 0; i < many; i++) {
            // Mostly a sign that can stand there, so that long ones come about.
            String sign = pick(RULE_SIGNS);
            for (int t = 0; t < 30; t++) {
                int fault = Model.ruleFault(b + sign);
                if (fault < 0 || fault > b.length()) {
                    break;
                }
                sign = pick(RULE_SIGNS);
            }
            b.append(sign);
        }
        return b.toString();
    }

    private String someYear() {
        StringBuilder b = new StringBuilder();
        int many = draw(0, random.nextInt(5) == 0 ? 20 : 5);
        for (int i = 0; i < many; i++) {
            int row = random.nextInt(8) == 0 ? 6 : random.nextInt(model.rows);
            int column = random.nextInt(8) == 0 ? 6 : random.nextInt(model.columns);
            int goer = random.nextInt(5);
            switch (random.nextInt(5)) {
                case 0:
                    b.append("n").append(random.nextInt(10));
                    break;
                case 1:
                    b.append("l").append(row).append(column);
                    break;
                case 2:
                    b.append("b").append(row).append(column).append(random.nextInt(4));
                    break;
                case 3:
                    b.append("g").append(goer).append(draw(1, 3));
                    break;
                default:
                    b.append("d").append(goer).append(row).append(column);
            }
        }
        return b.length() > 80 ? b.substring(0, 80) : b.toString();
    }

    private void tellText(int which) {
        switch (which) {
            case 0:
                say(spoilt(someLand(), "0167.hbwx"));
                same("land()", real::land, model::land);
                break;
            case 1:
                say(spoilt(someGoers(), "01256;hbwx"));
                same("goers()", real::goers, model::goers);
                break;
            case 2:
                say(spoilt(someRule(), RULE_SIGNS));
                same("rule()", real::rule, model::rule);
                break;
            case 3:
                say(spoilt(someRule(), RULE_SIGNS));
                same("law()", real::law, model::law);
                break;
            default:
                say(spoilt(someYear(), "nlbgd0123459;"));
                same("year()", real::year, model::year);
        }
    }

    private void change() {
        int f = draw(-1, model.size());
        int g = draw(-1, model.world.goers.size());
        int k = draw(-1, 4);
        int n = draw(0, 40) == 0 ? draw(55, 62) : draw(-1, 12);
        int i = draw(-1, 2);
        int v = draw(0, 9) == 0 ? draw(-1, 101) : draw(1, 30);
        int what = random.nextInt(12);
        switch (what) {
            case 0:
            case 1:
                same("nights(" + n + ")", () -> real.nights(n), () -> model.nights(n));
                break;
            case 2:
            case 3:
                same("lock(" + f + ")", () -> real.lock(f), () -> model.lock(f));
                break;
            case 4:
                same("build(" + f + ", " + k + ")", () -> real.build(f, k), () -> model.build(f, k));
                break;
            case 5:
                same("grant(" + g + ", " + k + ")", () -> real.grant(g, k), () -> model.grant(g, k));
                break;
            case 6:
                same("divert(" + g + ", " + f + ")", () -> real.divert(g, f), () -> model.divert(g, f));
                break;
            case 7:
                same("undo()", real::undo, model::undo);
                break;
            case 8:
                same("keep(" + i + ")", () -> real.keep(i) ? 1 : 0, () -> model.keep(i));
                break;
            case 9:
                same("again(" + i + ")", () -> real.again(i) ? 1 : 0, () -> model.again(i));
                break;
            case 10:
                same("use(" + v + ")", () -> real.use(v), () -> model.use(v));
                break;
            default:
                someSheet();
        }
    }

    private void someSheet() {
        int kind = draw(-1, 4);
        int n = draw(0, 3) == 0 ? draw(-1, 37) : draw(0, model.size());
        int f = draw(0, 3) == 0 ? random.nextInt() : draw(-20, 120);
        int step = draw(0, 3) == 0 ? random.nextInt() : draw(-3, 3);
        same("sheet(" + kind + ", " + n + ", " + f + ", " + step + ")", () -> real.sheet(kind, n, f, step),
                () -> model.sheet(kind, n, f, step));
    }

    private void askPaths() {
        int g = draw(-1, model.world.goers.size());
        int h = draw(-1, model.world.goers.size());
        int f = draw(-1, model.size());
        switch (random.nextInt(11)) {
            case 0:
                same("path(" + g + ")", () -> real.path(g), () -> model.path(g));
                break;
            case 1:
                same("blocked()", real::blocked, model::blocked);
                break;
            case 2:
                same("detour(" + g + ", " + f + ")", () -> real.detour(g, f), () -> model.detour(g, f));
                break;
            case 3:
                same("vital(" + g + ")", () -> real.vital(g), () -> model.vital(g));
                break;
            case 4:
                same("cut(" + g + ")", () -> real.cut(g), () -> model.cut(g));
                break;
            case 5:
                same("frees()", real::frees, model::frees);
                break;
            case 6:
                same("busiest()", real::busiest, model::busiest);
                break;
            case 7:
                same("meets(" + g + ", " + h + ")", () -> real.meets(g, h), () -> model.meets(g, h));
                break;
            case 8:
                same("reach(" + g + ")", () -> real.reach(g), () -> model.reach(g));
                break;
            case 9:
                same("better(" + g + ")", () -> real.better(g), () -> model.better(g));
                break;
            default:
                same("gate()", real::gate, model::gate);
        }
    }

    private void askAhead() {
        int g = draw(-1, model.world.goers.size());
        int f = draw(-1, model.size());
        int n = draw(0, 20) == 0 ? draw(-1, 100) : draw(0, 20);
        int is = draw(0, 9) == 0 ? draw(-1, 2) : draw(0, 1);
        switch (random.nextInt(9)) {
            case 0:
                same("claims(" + f + ")", () -> real.claims(f), () -> model.claims(f));
                break;
            case 1:
                same("later(" + n + ")", () -> real.later(n), () -> model.later(n));
                break;
            case 2:
                same("alters(" + g + ")", () -> real.alters(g), () -> model.alters(g));
                break;
            case 3:
                same("deepest(" + n + ")", () -> real.deepest(n), () -> model.deepest(n));
                break;
            case 4:
            case 5:
                same("print(" + f + ", " + is + ")", () -> real.print(f, is), () -> model.print(f, is));
                break;
            case 6:
                if (draw(0, 2) == 0) {
                    same("forget()", real::forget, model::forget);
                }
                break;
            case 7:
                same("fits()", real::fits, model::fits);
                break;
            default:
                same("look()", real::look, model::look);
        }
    }

    private void askChance() {
        int f = draw(-1, model.size());
        int k = draw(0, 9) == 0 ? draw(-1, 7) : draw(0, 3);
        int p = draw(-1, 11);
        int n = draw(0, 9) == 0 ? draw(-1, 41) : draw(1, 40);
        int gates = draw(-1, 13);
        int v = draw(-1, 21);
        int seed = random.nextInt();
        switch (random.nextInt(5)) {
            case 0:
                same("gates(" + gates + ")", () -> real.gates(gates), () -> model.gates(gates));
                break;
            case 1:
                same("goes(" + f + ", " + k + ", " + p + ")", () -> real.goes(f, k, p), () -> model.goes(f, k, p));
                break;
            case 2:
                same("crowd()", real::crowd, model::crowd);
                break;
            case 3:
                same("rests(" + v + ")", () -> real.rests(v), () -> model.rests(v));
                break;
            default:
                same("years(" + seed + ", " + n + ")", () -> real.years(seed, n), () -> model.years(seed, n));
        }
    }

    private void askRow() {
        int many = model.row.size();
        for (int i = -1; i <= many; i++) {
            int at = i;
            same("row(" + at + ")", () -> real.row(at), () -> model.row(at));
        }
    }

    private void askAll() {
        for (int what = -1; what <= 15; what++) {
            int w = what;
            same("count(" + w + ")", () -> real.count(w), () -> model.count(w));
        }
        for (int field = -1; field <= model.size(); field++) {
            int f = field;
            int what = draw(-1, 4);
            same("field(" + f + ", " + what + ")", () -> real.field(f, what), () -> model.field(f, what));
            int g = draw(-1, model.world.goers.size());
            same("hard(" + g + ", " + f + ")", () -> real.hard(g, f), () -> model.hard(g, f));
        }
        for (int goer = -1; goer <= model.world.goers.size(); goer++) {
            for (int what = -1; what <= 6; what++) {
                int g = goer;
                int w = what;
                same("goer(" + g + ", " + w + ")", () -> real.goer(g, w), () -> model.goer(g, w));
            }
        }
    }

    private void signs() {
        int v = random.nextInt();
        same("sign(" + v + ")", () -> real.sign(v), () -> model.sign(v));
        if (draw(0, 5) == 0) {
            int n = draw(-1, 81);
            same("end(" + n + ")", () -> real.end(n) ? 1 : 0, () -> model.end(n));
        }
    }

    private void run() {
        tellText(0);
        tellText(1);
        if (draw(0, 2) > 0) {
            tellText(2);
        }
        int calls = draw(20, 60);
        for (int i = 0; i < calls; i++) {
            int what = random.nextInt(100);
            if (what < 2) {
                tellText(0);
            } else if (what < 6) {
                tellText(1);
            } else if (what < 10) {
                tellText(2);
            } else if (what < 14) {
                tellText(3);
            } else if (what < 20) {
                tellText(4);
            } else if (what < 45) {
                change();
            } else if (what < 70) {
                askPaths();
            } else if (what < 83) {
                askAhead();
            } else if (what < 95) {
                askChance();
            } else {
                signs();
            }
            askRow();
            if (draw(0, 4) == 0) {
                askAll();
            }
        }
        askAll();
    }

    public static void main(String[] args) {
        long first = args.length > 0 ? Long.parseLong(args[0]) : 1;
        long many = args.length > 1 ? Long.parseLong(args[1]) : 150;
        for (long seed = first; seed < first + many; seed++) {
            new RandomRunsTest(seed).run();
        }
        System.out.println(many + " runs are as the model's");
    }
}
