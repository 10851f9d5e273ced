import java.util.NoSuchElementException;

/**
 * Each sentence of the promises 2 to 39 that begins with "Throws": the last value that is allowed and the first that is
 * not, on both sides; the exception that is documented first, where several apply; and the state as it was afterwards:
 * all that can be asked for, all that can be undone, and the snapshot. Reason 5 is left to TooManyPushesTest.
 */
public final class RefusedCallsTest {
    private static final Check CHECK = new Check("RefusedCallsTest");
    private static final int MIN = Integer.MIN_VALUE;
    private static final int MAX = Integer.MAX_VALUE;
    private static final String INDEX = "IndexOutOfBoundsException";
    private static final String ARGUMENT = "IllegalArgumentException";
    private static final String ELEMENT = "NoSuchElementException";
    private static final String STATE = "IllegalStateException";
    private static final String ARITHMETIC = "ArithmeticException";
    private static final String REFUSED = "UnsupportedOperationException";
    private static final String ANSWERED = "an answer";
    /** The ends of all ranges, the numbers beside them, and those at which int wraps around. */
    private static final int[] NUMBERS = {MIN, MIN + 1, -257, -65, -2, -1, 0, 1, 2, 3, 4, 5, 6, 7, 8, 9, 10, 11, 12, 13, 29,
        30, 31, 32, 63, 64, 65, 255, 256, 257, 1022, 1023, 1024, 1025, 65536, MAX - 1, MAX};

    /** A call with two numbers; the ones without need look at none, or at one of them. */
    private interface Asked {
        Object call(GateGuards x, int one, int other);
    }

    /** Tells which exception, or answer, is due of a call with these numbers. */
    private interface Due {
        String of(GateGuards x, int one, int other);
    }

    /** How a gate is made on which calls are tried. */
    private interface Maker {
        GateGuards make();
    }

    private final String name;
    private final Maker maker;
    private final String state;
    private final String reason;
    private final String past;

    private RefusedCallsTest(String name, Maker maker) {
        this.name = name;
        this.maker = maker;
        state = Check.stateOf(maker.make());
        reason = Check.reasonOf(maker.make());
        past = Check.pastOf(maker.make());
    }

    public static void main(String[] args) {
        for (RefusedCallsTest test : new RefusedCallsTest[] {
            new RefusedCallsTest("a new gate", () -> new GateGuards()),
            new RefusedCallsTest("guards alone", RefusedCallsTest::guardsAlone),
            new RefusedCallsTest("visitors alone", RefusedCallsTest::visitorsAlone),
            new RefusedCallsTest("some", RefusedCallsTest::some),
            new RefusedCallsTest("a full gate", RefusedCallsTest::full)}) {
            test.ofGuards();
            test.ofVisitors();
            test.ofSets();
            test.ofOthers();
            test.runs();
        }
        CHECK.end();
    }

    private static GateGuards guardsAlone() {
        GateGuards x = new GateGuards();
        x.guard(1);
        x.save();
        x.guard(64);
        x.caution(1, 256);
        return x;
    }

    private static GateGuards visitorsAlone() {
        GateGuards x = new GateGuards();
        x.visitor(1, true);
        x.visitor(1023, false);
        x.line(0);
        Check.put(x, "+a");
        return x;
    }

    /** Two guards, four visitors about whom a guard can never be calm, six changes and a snapshot. */
    private static GateGuards some() {
        GateGuards x = new GateGuards();
        x.guard(10);
        x.visitor(3, true);
        x.visitor(12, true);
        x.save();
        x.visitor(5, false);
        x.visitor(10, false);
        x.day(0);
        x.guard(64);
        x.undo();
        x.guard(32);
        Check.outcomeOf(() -> x.rate(0, 10));
        x.line(3);
        Check.put(x, "+a;;");
        Check.outcomeOf(() -> x.run());
        Check.put(x, "d0;x");
        return x;
    }

    /** Four guards, twelve visitors, eight changes and more, a snapshot, and sixty characters. */
    private static GateGuards full() {
        GateGuards x = new GateGuards();
        Check.put(x, "g1;g64;g32;g20;+a;-ab;+abc;-j;+ij;-hij;+bd");
        x.run();
        x.save();
        Check.put(x, "-c;+ce;-abcdefghij;+fg;-ef;t0:0;t1:0;t2:0");
        x.run();
        x.day(1);
        x.days(2, 3);
        x.caution(3, 64);
        x.teach(3, 11);
        x.forget(11);
        x.undo();
        x.rate(0, 2);
        x.undo();
        x.rate(0, 3);
        x.days(0, 30);
        x.caution(0, 256);
        x.caution(0, 0);
        x.day(0);
        x.guardLine(1);
        Check.outcomeOf(() -> x.visitor(3, true));
        Check.put(x, "d0;+");
        Check.outcomeOf(() -> x.run());
        Check.put(x, "0123456789+-;xgtd:abcdefghij0123456789+-;xgtd:abcdefghij????");
        return x;
    }

    /** Tries a call on a gate of its own, and looks that a call that throws has changed nothing but the reason. */
    private void look(String what, String due, GateGuards x, Check.Call call) {
        String outcome = Check.outcomeOf(call);
        String want = due.split(" ")[0];
        String got = outcome.endsWith("Exception") ? outcome : "an";
        CHECK.due(name + ": " + what, got, want);
        if (outcome.endsWith("Exception")) {
            CHECK.due(name + ": the state behind " + what, Check.stateOf(x), state);
            boolean isRefused = due.startsWith(REFUSED);
            String then = isRefused ? due.substring(REFUSED.length() + 1) : reason;
            CHECK.due(name + ": the reason behind " + what, Check.reasonOf(x), then);
            CHECK.due(name + ": the past behind " + what, Check.pastOf(x), past);
        }
    }

    /** Tries a call with one number. */
    private void ones(String what, Asked asked, Due due) {
        for (int one : NUMBERS) {
            GateGuards x = maker.make();
            look(what + " " + one, due.of(maker.make(), one, 0), x, () -> asked.call(x, one, 0));
        }
    }

    /** Tries a call with each pair of numbers of which the first is a guard's or a visitor's, or beside them. */
    private void pairs(String what, Asked asked, Due due) {
        for (int one : new int[] {MIN, -1, 0, 1, 3, 4, 11, 12, MAX}) {
            for (int other : NUMBERS) {
                GateGuards x = maker.make();
                String want = due.of(maker.make(), one, other);
                look(what + " " + one + " " + other, want, x, () -> asked.call(x, one, other));
            }
        }
    }

    private static boolean isGuard(GateGuards x, int guard) {
        return guard >= 0 && guard < x.account(0);
    }

    private static boolean isVisitor(GateGuards x, int visitor) {
        return visitor >= 0 && visitor < x.account(1);
    }

    /** What is due of a call that needs a guard, and another number within a range. */
    private static String within(GateGuards x, int guard, int other, int least, int most, String beyond) {
        return !isGuard(x, guard) ? INDEX : other < least || other > most ? beyond : ANSWERED;
    }

    private static String refused(int reason, int detail) {
        return REFUSED + " " + reason + " " + detail;
    }

    private static String withVisitor(GateGuards x, int guard, int visitor) {
        return isGuard(x, guard) && isVisitor(x, visitor) ? ANSWERED : INDEX;
    }

    private static String dueOfRate(GateGuards x, int guard, int rate) {
        String due = within(x, guard, rate, 1, 64, ARGUMENT);
        return due.equals(ANSWERED) && x.guardOf(guard, 0) == rate ? refused(4, rate) : due;
    }

    private static String dueOfCaution(GateGuards x, int guard, int caution) {
        String due = within(x, guard, caution, 0, 256, ARGUMENT);
        return due.equals(ANSWERED) && x.guardOf(guard, 1) == caution ? refused(4, caution) : due;
    }

    private static String dueOfMean(GateGuards x, int guard, int badge) {
        String due = within(x, guard, badge, 0, 9, ARGUMENT);
        return due.equals(ANSWERED) && x.guardOf(guard, 2) == 0 ? ARITHMETIC : due;
    }

    private static String dueOfDays(GateGuards x, int guard, int most) {
        String due = within(x, guard, most, 1, 30, ARGUMENT);
        return due.equals(ANSWERED) && x.account(1) == 0 ? refused(3, x.account(0)) : due;
    }

    /** Lives the days on this gate, which is used up by it. */
    private static String dueOfCalm(GateGuards x, int guard, int most) {
        String due = within(x, guard, most, 1, 30, ARGUMENT);
        if (!due.equals(ANSWERED)) {
            return due;
        }
        for (int day = 1; day <= most && x.account(1) > 0; day++) {
            if (x.day(guard) == 0) {
                return ANSWERED;
            }
        }
        return ELEMENT;
    }

    private static String dueOfDay(GateGuards x, int guard, int unused) {
        return !isGuard(x, guard) ? INDEX : x.account(1) == 0 ? refused(3, x.account(0)) : ANSWERED;
    }

    private static String dueOfClosest(GateGuards x, int guard, int unused) {
        return !isGuard(x, guard) ? INDEX : x.account(1) == 0 ? ELEMENT : ANSWERED;
    }

    private static String dueOfSet(GateGuards x, int badges, int unused) {
        return badges < 1 || badges > 1023 ? ARGUMENT : ANSWERED;
    }

    private static String dueOfVisitor(GateGuards x, int badges, int unused) {
        if (!dueOfSet(x, badges, 0).equals(ANSWERED)) {
            return ARGUMENT;
        }
        for (int i = 0; i < x.account(1); i++) {
            if (x.visitorOf(i, 0) == badges) {
                return refused(2, i);
            }
        }
        return x.account(1) == 12 ? refused(1, 12) : ANSWERED;
    }

    private static String dueOfGuard(GateGuards x, int rate, int unused) {
        return rate < 1 || rate > 64 ? ARGUMENT : x.account(0) == 4 ? refused(1, 4) : ANSWERED;
    }

    private static String dueOfCharacter(GateGuards x, int index, int unused) {
        return index < 0 || index >= Check.lineOf(x).length() ? INDEX : ANSWERED;
    }

    private void ofGuards() {
        pairs("3: rate", (x, g, r) -> x.rate(g, r), RefusedCallsTest::dueOfRate);
        pairs("4: caution", (x, g, c) -> x.caution(g, c), RefusedCallsTest::dueOfCaution);
        pairs("8: guardOf", (x, g, w) -> x.guardOf(g, w), (x, g, w) -> within(x, g, w, 0, 6, ARGUMENT));
        pairs("9: margin", (x, g, b) -> x.margin(g, b, false), (x, g, b) -> within(x, g, b, 1, 1023, ARGUMENT));
        pairs("9: margin again", (x, g, b) -> x.margin(g, b, true), (x, g, b) -> within(x, g, b, 1, 1023, ARGUMENT));
        pairs("10: letsIn", (x, g, b) -> x.letsIn(g, b), (x, g, b) -> within(x, g, b, 1, 1023, ARGUMENT));
        pairs("11: weightBits", (x, g, k) -> x.weightBits(g, k), (x, g, k) -> within(x, g, k, -1, 9, ARGUMENT));
        pairs("12: counted", (x, g, k) -> x.counted(g, k), (x, g, k) -> within(x, g, k, -1, 9, ARGUMENT));
        pairs("13: mean", (x, g, k) -> x.mean(g, k), RefusedCallsTest::dueOfMean);
        pairs("14: strongest", (x, g, p) -> x.strongest(g, p), (x, g, p) -> within(x, g, p, 0, 9, ELEMENT));
        ones("15: closest", (x, g, u) -> x.closest(g), RefusedCallsTest::dueOfClosest);
        pairs("16: knows", (x, g, v) -> x.knows(g, v), RefusedCallsTest::withVisitor);
        pairs("17: teach", (x, g, v) -> x.teach(g, v), RefusedCallsTest::withVisitor);
        ones("18: day", (x, g, u) -> x.day(g), RefusedCallsTest::dueOfDay);
        pairs("19: days", (x, g, m) -> x.days(g, m), RefusedCallsTest::dueOfDays);
        pairs("20: wouldCalm", (x, g, m) -> x.wouldCalm(g, m), RefusedCallsTest::dueOfCalm);
        pairs("21: wouldPush", (x, g, v) -> x.wouldPush(g, v), RefusedCallsTest::withVisitor);
        pairs("24: agree", (x, g, h) -> x.agree(g, h), (x, g, h) -> isGuard(x, h) && isGuard(x, g) ? ANSWERED : INDEX);
        ones("28: guardLine", (x, g, u) -> x.guardLine(g), (x, g, u) -> isGuard(x, g) ? ANSWERED : INDEX);
    }

    private void ofVisitors() {
        ones("6: forget", (x, v, u) -> x.forget(v), (x, v, u) -> isVisitor(x, v) ? ANSWERED : INDEX);
        pairs("7: visitorOf", (x, v, w) -> x.visitorOf(v, w),
            (x, v, w) -> !isVisitor(x, v) ? INDEX : w < 0 || w > 4 ? ARGUMENT : ANSWERED);
        ones("27: line", (x, v, u) -> x.line(v), (x, v, u) -> isVisitor(x, v) ? ANSWERED : INDEX);
    }

    private void ofSets() {
        ones("5: visitor, a friend", (x, b, u) -> x.visitor(b, true), RefusedCallsTest::dueOfVisitor);
        ones("5: visitor, a foe", (x, b, u) -> x.visitor(b, false), RefusedCallsTest::dueOfVisitor);
        ones("22: votes", (x, b, u) -> x.votes(b), RefusedCallsTest::dueOfSet);
        ones("23: isVotedIn", (x, b, u) -> x.isVotedIn(b), RefusedCallsTest::dueOfSet);
    }

    private void ofOthers() {
        ones("2: guard", (x, r, u) -> x.guard(r), RefusedCallsTest::dueOfGuard);
        ones("26: ranked", (x, p, u) -> x.ranked(p), (x, p, u) -> isGuard(x, p) ? ANSWERED : ELEMENT);
        ones("29: character", (x, i, u) -> x.character(i), RefusedCallsTest::dueOfCharacter);
        ones("30: append", (x, c, u) -> x.append((char) c), (x, c, u) -> x.account(7) == 60 ? STATE : ANSWERED);
        ones("33: refusal", (x, i, u) -> x.refusal(i % 2 == 0),
            (x, i, u) -> Check.reasonOf(x).equals("none") ? ELEMENT : ANSWERED);
        ones("34: account", (x, w, u) -> x.account(w), (x, w, u) -> w < 0 || w > 8 ? ARGUMENT : ANSWERED);
        ones("36: meanBadges", (x, i, u) -> x.meanBadges(), (x, i, u) -> x.account(1) == 0 ? ARITHMETIC : ANSWERED);
        ones("37: undo", (x, i, u) -> x.undo(), (x, i, u) -> x.account(8) == 0 ? STATE : ANSWERED);
        ones("39: restore", (x, i, u) -> x.restore(), (x, i, u) -> past.contains("; snapshot " + STATE) ? STATE : ANSWERED);
    }

    /** Texts that cannot be carried out in any of these gates, behind orders that can be in some. */
    private void runs() {
        String[] beginnings = {"", "+ac;", "g5;g6;", "-ace;g2;t0:0;d0;", "x0;", "x0;x0;x0;", "d0;t0:0;"};
        String[] ends = {"+", "+ba", "x99", "g0", "g65", "t9:0", "t0:99", "d9", "+ag;+ag", "g1;g1;g1;g1;g1", "?", "d0;"};
        for (String beginning : beginnings) {
            for (String end : ends) {
                String text = beginning + end;
                CHECK.due(name + ": 31: the past behind " + text, Check.pastOf(behindRun(text)), past);
            }
        }
    }

    /** A gate on which what is in the input, and then a text, is run; neither can be. */
    private GateGuards behindRun(String text) {
        GateGuards x = maker.make();
        CHECK.due(name + ": 31: a text", Check.outcomeOf(() -> x.run()).endsWith("Exception"), true);
        Check.put(x, text);
        String line = Check.lineOf(x);
        CHECK.due(name + ": 31: " + text, Check.outcomeOf(() -> x.run()).endsWith("Exception"), true);
        CHECK.due(name + ": 31: the input behind " + text, x.account(7), 0);
        CHECK.due(name + ": 31: the line behind " + text, Check.lineOf(x), line);
        return x;
    }
}
