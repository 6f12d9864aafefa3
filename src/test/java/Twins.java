import java.util.NoSuchElementException;
import java.util.function.Consumer;
import java.util.function.Supplier;
import java.util.function.ToLongFunction;

/**
 * What a call leaves as it was: of two objects by the same calls one gets the call besides, and then both are asked
 * for all that can be asked, undone to the last, and brought back from both numbers.
 */
final class Twins {
    static final long THROWN = Long.MIN_VALUE + 7;
    private final Checks check;

    Twins(Checks check) {
        this.check = check;
    }

    /** The call answers what is due and changes nothing at all. */
    void leaves(String what, Supplier<BuriedWithIt> maker, ToLongFunction<BuriedWithIt> call, long want) {
        compare(what, maker, call, want, x -> { }, true);
    }

    /** Likewise, but THE TEXT (told just ahead of the call) is empty behind it. */
    void leavesButText(String what, Supplier<BuriedWithIt> maker, String text, ToLongFunction<BuriedWithIt> call,
            long want) {
        compare(what, () -> Checks.say(maker.get(), text), call, want, x -> x.end(0), true);
    }

    /** Likewise, but the ROW is told anew. */
    void leavesButRow(String what, Supplier<BuriedWithIt> maker, ToLongFunction<BuriedWithIt> call, long want) {
        compare(what, maker, call, want, x -> { }, false);
    }

    void leavesButTextAndRow(String what, Supplier<BuriedWithIt> maker, String text,
            ToLongFunction<BuriedWithIt> call, long want) {
        compare(what, () -> Checks.say(maker.get(), text), call, want, x -> x.end(0), false);
    }

    private void compare(String what, Supplier<BuriedWithIt> maker, ToLongFunction<BuriedWithIt> call, long want,
            Consumer<BuriedWithIt> instead, boolean withRow) {
        check.due(what, answer(maker.get(), call), want);
        Supplier<BuriedWithIt> called = () -> {
            BuriedWithIt x = maker.get();
            answer(x, call);
            return x;
        };
        Supplier<BuriedWithIt> spared = () -> {
            BuriedWithIt x = maker.get();
            instead.accept(x);
            return x;
        };
        String got = all(called, withRow);
        String due = all(spared, withRow);
        int at = 0;
        while (at < got.length() && at < due.length() && got.charAt(at) == due.charAt(at)) {
            at++;
        }
        boolean same = got.equals(due);
        check.due(what + " leaves all as it was" + (same ? "" : ": " + around(got, at) + " for " + around(due, at)),
                same, true);
    }

    private static String around(String s, int at) {
        return s.substring(Math.max(0, Math.min(s.length(), at) - 60), Math.min(s.length(), at + 30)).replace('\n', '|');
    }

    private static long answer(BuriedWithIt x, ToLongFunction<BuriedWithIt> call) {
        try {
            return call.applyAsLong(x);
        } catch (NoSuchElementException e) {
            return THROWN;
        }
    }

    private static String all(Supplier<BuriedWithIt> maker, boolean withRow) {
        StringBuilder b = new StringBuilder();
        BuriedWithIt x = maker.get();
        if (withRow) {
            row(x, b);
        }
        b.append("signs ").append(x.count(14)).append('\n');
        state(x, b);
        asked(x, b);
        past(maker.get(), b);
        kept(maker.get(), 0, b);
        kept(maker.get(), 1, b);
        b.append("land ").append(maker.get().land());
        BuriedWithIt landed = maker.get();
        landed.land();
        state(landed, b);
        return b.toString();
    }

    private static void row(BuriedWithIt x, StringBuilder b) {
        b.append("row");
        for (int i = 0; i < x.count(13); i++) {
            b.append(' ').append(x.row(i));
        }
        b.append('\n');
    }

    private static void state(BuriedWithIt x, StringBuilder b) {
        int fields = x.count(0) * x.count(1);
        b.append("count");
        for (int what = 0; what <= 12; what++) {
            b.append(' ').append(x.count(what));
        }
        for (int f = 0; f < fields; f++) {
            b.append("\nfield ").append(f);
            for (int what = 0; what <= 3; what++) {
                b.append(' ').append(x.field(f, what));
            }
        }
        for (int g = 0; g < x.count(2); g++) {
            b.append("\ngoer ").append(g);
            for (int what = 0; what <= 5; what++) {
                b.append(' ').append(x.goer(g, what));
            }
            for (int f = 0; f < fields; f++) {
                b.append(' ').append(x.hard(g, f));
            }
        }
        b.append('\n');
    }

    private static void asked(BuriedWithIt x, StringBuilder b) {
        b.append("fits ").append(x.fits()).append(" look ").append(x.look());
        b.append(" nights ").append(x.nights(1)).append('\n');
        state(x, b);
    }

    private static void past(BuriedWithIt x, StringBuilder b) {
        for (int i = 0; i < 14; i++) {
            b.append("undo ").append(x.undo()).append(' ').append(x.count(4)).append(' ').append(x.count(5))
                    .append(' ').append(x.count(10));
            for (int f = 0; f < x.count(0) * x.count(1); f++) {
                b.append(' ').append(x.field(f, 0) + 4 * x.field(f, 2));
            }
            for (int g = 0; g < x.count(2); g++) {
                b.append(' ').append(x.goer(g, 1) + 64 * x.goer(g, 2)).append(' ').append(x.goer(g, 3));
            }
            b.append('\n');
        }
    }

    private static void kept(BuriedWithIt x, int i, StringBuilder b) {
        b.append("again ").append(x.again(i)).append('\n');
        state(x, b);
    }
}
