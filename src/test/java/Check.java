import java.util.NoSuchElementException;

/** Compares answers with those that are due, prints each that is not, and tells by the exit code whether all were. */
final class Check {
    /** One call whose answer, or exception, is looked at. */
    interface Call {
        Object answer();
    }

    private final String name;
    private int looked = 0;
    private int wrong = 0;

    Check(String name) {
        this.name = name;
    }

    /** Floats and doubles are the same only if their bits are, so that -0.0 is told from 0.0. */
    void due(String what, Object got, Object want) {
        looked++;
        if (!want.equals(got)) {
            wrong++;
            System.out.println(name + ": " + what + " answered " + got + ", due is " + want);
        }
    }

    /** The call throws this exception, and leaves all that can be asked for as it was. */
    void thrown(String what, GateGuards x, Class<?> want, Call call) {
        String before = stateOf(x);
        String reasonBefore = reasonOf(x);
        due(what, outcomeOf(call), want.getSimpleName());
        due(what + ": the state behind it", stateOf(x), before);
        if (want != UnsupportedOperationException.class) {
            due(what + ": the reason behind it", reasonOf(x), reasonBefore);
        }
    }

    /** The call is refused for this reason, with this detail, and leaves the rest as it was. */
    void refused(String what, GateGuards x, int reason, int detail, Call call) {
        thrown(what, x, UnsupportedOperationException.class, call);
        due(what + ": the reason", reasonOf(x), reason + " " + detail);
    }

    void end() {
        System.out.println(name + ": " + (looked - wrong) + " of " + looked + " answers are as due");
        if (wrong != 0) {
            System.exit(1);
        }
    }

    static String outcomeOf(Call call) {
        try {
            return String.valueOf(call.answer());
        } catch (RuntimeException e) {
            return e.getClass().getSimpleName();
        }
    }

    static String reasonOf(GateGuards x) {
        try {
            return x.refusal(false) + " " + x.refusal(true);
        } catch (NoSuchElementException e) {
            return "none";
        }
    }

    static String lineOf(GateGuards x) {
        StringBuilder line = new StringBuilder();
        try {
            for (int i = 0; i < 1000; i++) {
                line.append(x.character(i));
            }
        } catch (IndexOutOfBoundsException e) {
            return line.toString();
        }
        return "endless";
    }

    /** Everything that can be asked for without a change, but the reason. */
    static String stateOf(GateGuards x) {
        StringBuilder all = new StringBuilder();
        for (int what = 0; what <= 8; what++) {
            all.append(x.account(what)).append(' ');
        }
        all.append(x.errorPosition()).append(" '").append(lineOf(x)).append("'");
        all.append(gateOf(x));
        return all.toString();
    }

    /** Everything that can be asked for about the guards and the visitors. */
    static String gateOf(GateGuards x) {
        StringBuilder all = new StringBuilder();
        for (int guard = 0; guard < x.account(0); guard++) {
            all.append("; guard");
            for (int what = 0; what <= 6; what++) {
                all.append(' ').append(x.guardOf(guard, what));
            }
            for (int badge = -1; badge < 10; badge++) {
                all.append(' ').append(x.counted(guard, badge)).append('=').append(x.weightBits(guard, badge));
                if (badge >= 0 && x.guardOf(guard, 2) > 0) {
                    all.append('~').append(x.mean(guard, badge));
                }
            }
        }
        for (int visitor = 0; visitor < x.account(1); visitor++) {
            all.append("; visitor ").append(x.visitorOf(visitor, 0)).append(' ').append(x.visitorOf(visitor, 1));
        }
        return all.toString();
    }

    /** The gate, what undoing all that can be undone makes of it one by one, and the snapshot; x is used up by it. */
    static String pastOf(GateGuards x) {
        StringBuilder all = new StringBuilder(gateOf(x));
        String left = outcomeOf(() -> x.undo());
        while (!left.equals("IllegalStateException")) {
            all.append("; ").append(left).append(" left").append(gateOf(x));
            left = outcomeOf(() -> x.undo());
        }
        all.append("; snapshot ").append(outcomeOf(() -> x.restore())).append(gateOf(x));
        return all.toString();
    }

    /** Appends a text to the input. */
    static void put(GateGuards x, String text) {
        for (int i = 0; i < text.length(); i++) {
            x.append(text.charAt(i));
        }
    }
}
