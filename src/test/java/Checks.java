import java.util.NoSuchElementException;
import java.util.function.LongSupplier;

/** Counts and prints the answers that are not as due. */
final class Checks {
    private int wrong = 0;
    private int made = 0;
    private String under = "";

    void promise(String name) {
        under = name;
    }

    void due(String what, long got, long want) {
        made++;
        if (got != want) {
            wrong++;
            System.out.println(under + ": " + what + " answered " + got + ", due is " + want);
        }
    }

    void due(String what, boolean got, boolean want) {
        due(what, got ? 1 : 0, want ? 1 : 0);
    }

    void none(String what, LongSupplier call) {
        int thrown = 0;
        try {
            call.getAsLong();
        } catch (NoSuchElementException e) {
            thrown = 1;
        }
        due(what + " throws", thrown, 1);
    }

    /** The ROW has just these numbers. */
    void row(String what, BuriedWithIt x, long... want) {
        due(what + ": numbers of the ROW", x.count(13), want.length);
        for (int i = 0; i < want.length && i < x.count(13); i++) {
            due(what + ": row(" + i + ")", x.row(i), want[i]);
        }
    }

    void end() {
        System.out.println(wrong == 0 ? made + " answers are as due" : wrong + " answers are not as due");
        if (wrong != 0) {
            System.exit(1);
        }
    }

    /** THE TEXT becomes this one. */
    static BuriedWithIt say(BuriedWithIt x, String text) {
        x.end(0);
        for (int p = 0; p < text.length(); p += 4) {
            int four = 0;
            for (int i = p; i < p + 4; i++) {
                four = four << 8 | (i < text.length() ? text.charAt(i) & 255 : 0);
            }
            x.sign(four);
        }
        x.end(text.length());
        return x;
    }

    static BuriedWithIt made(String land, String goers) {
        BuriedWithIt x = new BuriedWithIt();
        if (say(x, land).land() < 0 || say(x, goers).goers() < 0) {
            throw new IllegalArgumentException(land + " " + goers);
        }
        return x;
    }
}
