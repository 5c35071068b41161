import java.util.NoSuchElementException;

/** What the tests by hand ask: answers, refusals with their TROUBLE, faults with their places, edges of an argument. */
abstract class Asking {
    static final String SMALL = "town grows 0 bald 0 shave 0;man a dark long 0 votes 0";

    private final Check check;

    Asking(String of) {
        check = new Check(of);
    }

    /** One call of which a single argument is tried. */
    interface Call {
        long of(BarberMinutes x, int argument);
    }

    void end() {
        check.end();
    }

    void due(String what, long got, long want) {
        check.same(what, got, want);
    }

    void due(String what, boolean got, boolean want) {
        check.same(what, got, want);
    }

    void due(String what, String got, String want) {
        check.same(what, got, want);
    }

    /** An answer that is due, and no trouble. */
    void granted(String what, BarberMinutes x, long got, long want) {
        due(what, got, want);
        due(what + " trouble", x.trouble(), 0);
    }

    /** An answer that refuses, and its trouble. */
    void refused(String what, BarberMinutes x, long got, long none, int trouble) {
        due(what, got, none);
        due(what + " trouble", x.trouble(), trouble);
    }

    void refused(String what, BarberMinutes x, long got, int trouble) {
        refused(what, x, got, BarberMinutes.NONE, trouble);
    }

    void led(String what, BarberMinutes x, int i, String want) {
        String got;
        try {
            got = "" + x.led(i);
        } catch (NoSuchElementException e) {
            got = "none such";
        }
        due(what, got, want);
    }

    void fault(String text, int number, int place) {
        BarberMinutes x = new BarberMinutes();
        refused("3 town of " + text, x, Tape.town(x, text), 4);
        due("4 fault of " + text, x.fault(), number);
        due("5 where of " + text, x.where(), place);
        due("3 no town by " + text, x.size(3), 0);
    }

    void stands(String text, int men) {
        BarberMinutes x = new BarberMinutes();
        granted("3 town of " + text, x, Tape.town(x, text), men);
        due("4 fault of " + text, x.fault(), 0);
        due("5 where of " + text, x.where(), -1);
    }

    /** An argument that is taken, asked of a new object. */
    void taken(String what, String text, Call call, int argument, long want) {
        BarberMinutes x = Tape.of(text);
        granted(what + " of " + argument, x, call.of(x, argument), want);
    }

    /** Arguments that are refused, each asked of a new object, in which nothing changes thereby. */
    void refusedAll(String what, String text, Call call, long none, int trouble, int... arguments) {
        for (int argument : arguments) {
            BarberMinutes x = Tape.of(text);
            String before = seen(x);
            refused(what + " of " + argument, x, call.of(x, argument), none, trouble);
            due(what + " of " + argument + " changes nothing", seen(x), before);
        }
    }

    /** The least and the greatest argument that are taken have their answers; all below and above are refused. */
    void edges(String what, String text, Call call, int least, long ofLeast, int most, long ofMost, int trouble) {
        taken(what, text, call, least, ofLeast);
        taken(what, text, call, most, ofMost);
        refusedAll(what, text, call, BarberMinutes.NONE, trouble,
            least - 1, most + 1, Integer.MIN_VALUE, Integer.MAX_VALUE);
    }

    /** All that an act, an image or a town changes. */
    static String seen(BarberMinutes x) {
        StringBuilder all = new StringBuilder("sizes");
        for (int what = 0; what < 14; what++) {
            all.append(' ').append(x.size(what));
        }
        all.append(" hair");
        for (int m = 0; m < x.size(3); m++) {
            all.append(' ').append(x.man(m, 1));
        }
        all.append(" floor ").append(x.floor(0)).append(' ').append(x.floor(1)).append(' ').append(x.floor(2));
        all.append(" carried");
        for (int k = 0; k < x.size(4); k++) {
            all.append(' ').append(x.motion(k, 4));
        }
        return all.toString();
    }
}
