import java.util.NoSuchElementException;

/**
 * Reason 5 in promises 17 to 21 and 31: a counted number would be greater than 60000, or less than 0 by more than that.
 * The visitors were searched for, since numbers so large need some hundred calls of days with ever other visitors; this
 * takes more than the 512 calls for which the document promises something, but the class goes on as before.
 */
public final class TooManyPushesTest {
    private static final Check CHECK = new Check("TooManyPushesTest");
    /** Visitors, friends as sets and foes as sets with the other sign, who push the bias far up. */
    private static final int[][] FOR_BIAS = {
        {125, 874, 563, -855, -175, -888, -63, -359, -682, 463, -370, 310},
        {-123, -754, -363, -190, -854, 350, 691, 874, 370, 125, 223, -881},
        {947, 370, -761, -243, 626, -854, 125, -363, 1001, 619, -191, 223},
        {-695, 629, -243, -761, -363, 223, -862, 378, 764, 947, 619, -123},
        {-247, -761, -829, 619, -1001, -695, -862, 764, 479, 757, 819, 238},
        {-247, -862, -761, -829, 757, -1001, -695, 282, 764, 619, 819, 479}};
    /** And such who push the badge j further than the bias. */
    private static final int[][] FOR_LAST = {
        {-721, -431, -367, -160, 991, 204, 289, 763, -334, 422, -1019, -60},
        {-64, -288, -670, -116, -1023, 68, 954, 102, 40, 989, 795, 659},
        {-288, -1023, 814, 989, 659, 794, 1018, 102, 44, -52, -734, -104},
        {-4, 659, -1023, -116, -730, -292, 989, 102, 44, 859, -97, 1018},
        {44, -292, -730, 859, 971, -151, -1023, 989, 659, 1018, -97, 102},
        {907, 795, -292, 102, 1018, 659, -978, 44, -730, -1023, -97, 989},
        {907, -730, -292, 44, 588, -1023, 989, 795, 102, -97, 1018, 659}};

    private static final String REFUSED = "UnsupportedOperationException";

    /** How a gate is made. */
    private interface Maker {
        GateGuards make();
    }

    /** A call on a gate. */
    private interface On {
        Object call(GateGuards y);
    }

    private final String name;
    private final int sign;
    private final int badge;
    private final int[][] phases;
    /** The days that guard 1 of a worn gate can have before one is refused. */
    private int gone = 0;
    /** The visitor of that day whose lesson is refused. */
    private int visitor = 0;

    private TooManyPushesTest(String name, int sign, int badge, int[][] phases) {
        this.name = name + ": ";
        this.sign = sign;
        this.badge = badge;
        this.phases = phases;
    }

    public static void main(String[] args) {
        new TooManyPushesTest("bias up", 1, -1, FOR_BIAS).live();
        new TooManyPushesTest("bias down", -1, -1, FOR_BIAS).live();
        new TooManyPushesTest("j up", 1, 9, FOR_LAST).live();
        new TooManyPushesTest("j down", -1, 9, FOR_LAST).live();
        CHECK.end();
    }

    private void live() {
        findLastDay();
        findLastLesson();
        days();
        wouldCalm();
        day();
        teach();
        run();
        room();
    }

    private void due(String what, Object got, Object want) {
        CHECK.due(name + what, got, want);
    }

    private static boolean isRefused(Check.Call call) {
        return Check.outcomeOf(call).equals(REFUSED);
    }

    private static void meet(GateGuards x, int sign, int[] visitors) {
        while (x.account(1) > 0) {
            x.forget(0);
        }
        for (int badges : visitors) {
            x.visitor(Math.abs(badges), sign * badges > 0);
        }
    }

    /** Guard 1 cannot have 30 days more. */
    private GateGuards worn() {
        GateGuards x = new GateGuards();
        x.guard(5);
        x.guard(64);
        x.caution(1, 256);
        boolean isWorn = false;
        for (int phase = 0; phase < phases.length && !isWorn; phase++) {
            meet(x, sign, phases[phase]);
            for (int i = 0; i < 130 && !isWorn; i++) {
                isWorn = isRefused(() -> x.days(1, 30));
            }
        }
        due("it comes to a refusal", isWorn, true);
        x.save();
        Check.outcomeOf(() -> x.rate(0, 5));
        due("33: another reason", Check.reasonOf(x), "4 5");
        return x;
    }

    /** Guard 1 cannot have one day more. */
    private GateGuards dayLess() {
        GateGuards x = worn();
        for (int i = 0; i < gone; i++) {
            x.day(1);
        }
        return x;
    }

    /** Guard 1 cannot be taught the visitor. */
    private GateGuards lessonLess() {
        GateGuards x = dayLess();
        for (int i = 0; i < visitor; i++) {
            x.teach(1, i);
        }
        return x;
    }

    private void findLastDay() {
        GateGuards x = worn();
        while (gone < 30 && !isRefused(() -> x.day(1))) {
            gone++;
        }
        due("18: a day before the thirtieth is refused", gone < 30, true);
    }

    /** Lives the refused day lesson by lesson. */
    private void findLastLesson() {
        GateGuards x = dayLess();
        while (visitor < 12 && !isRefused(() -> x.teach(1, visitor))) {
            visitor++;
        }
        due("17: a lesson of this day is refused", visitor < 12, true);
    }

    /** The call is refused, and what can be undone, and the snapshot, are then as they were. */
    private void refused(String what, Maker maker, On on) {
        GateGuards x = maker.make();
        CHECK.refused(name + what, x, 5, 1, () -> on.call(x));
        due(what + ": the past behind it", Check.pastOf(x), Check.pastOf(maker.make()));
    }

    private void days() {
        refused("19: thirty days", this::worn, y -> y.days(1, 30));
        refused("19: a day too much", this::worn, y -> y.days(1, gone + 1));
        refused("19: one day", this::dayLess, y -> y.days(1, 1));
        GateGuards x = worn();
        due("19: as many days as can be had", gone == 0 ? 0 : x.days(1, gone), gone);
        due("19: the same as day by day", Check.gateOf(x), Check.gateOf(dayLess()));
    }

    private void wouldCalm() {
        for (int most : new int[] {30, gone + 1}) {
            GateGuards x = worn();
            CHECK.thrown(name + "20: refused before", x, NoSuchElementException.class, () -> x.wouldCalm(1, most));
            due("20: the past behind it", Check.pastOf(x), Check.pastOf(worn()));
        }
    }

    private void day() {
        refused("18: day", this::dayLess, y -> y.day(1));
    }

    private void teach() {
        GateGuards x = lessonLess();
        due("17: the next push is too much", sign * x.counted(1, badge) + 64 > 60000, true);
        due("17: the last was not", sign * x.counted(1, badge) <= 60000, true);
        refused("17: teach", this::lessonLess, y -> y.teach(1, visitor));
        due("21: the visitor would push", x.wouldPush(1, visitor), true);
        for (int i = 0; i < 12; i++) {
            if (!x.wouldPush(1, i)) {
                due("17: without a push nothing is refused", x.teach(1, i), 0);
            }
        }
    }

    private void run() {
        runRefused(this::dayLess, "d0;d1;d9");
        runRefused(this::lessonLess, "t0:0;d0;g8;t1:" + visitor + ";x99");
        GateGuards x = lessonLess();
        Check.put(x, "g8;x99;t1:" + visitor);
        due("31: an order ahead of it cannot be", Check.outcomeOf(() -> x.run()), "IllegalArgumentException");
        due("33: the reason stays", Check.reasonOf(x), "4 5");
    }

    private void runRefused(Maker maker, String text) {
        GateGuards x = maker.make();
        Check.put(x, text);
        due("31: " + text + " is refused", Check.outcomeOf(() -> x.run()), REFUSED);
        due("33: for reason 5", Check.reasonOf(x), "5 1");
        due("32: it has no error", x.errorPosition(), -1);
        due("31: the input is empty", x.account(7), 0);
        due("31: the past behind it", Check.pastOf(x), Check.pastOf(maker.make()));
    }

    /** What there is room for may be pushed, up to 60000, but no 64th more. */
    private void room() {
        GateGuards x = lessonLess();
        int room = 60000 - sign * x.counted(1, badge);
        due("17: there is room for less than a push of 64", room >= 0 && room < 64, true);
        x.rate(1, room + 1);
        CHECK.refused(name + "17: a 64th too much", x, 5, 1, () -> x.teach(1, visitor));
        x.rate(1, room);
        due("17: as much as there is room for", x.teach(1, visitor), 1);
        due("12: counted 60000", x.counted(1, badge), sign * 60000);
        due("11: its bits", x.weightBits(1, badge), Float.floatToIntBits(sign * 937.5f));
        due("35: all is well", x.isWell(), true);
        eachSet(x);
        x.guardLine(1);
        due("28: the line has the number", Check.lineOf(x).contains(sign > 0 ? "60000" : "-60000"), true);
    }

    /** With 60000 counted for the badge those who have it cannot be pushed further; others can be, and these back. */
    private void eachSet(GateGuards x) {
        int with = 0;
        int without = 0;
        int back = 0;
        x.save();
        for (int badges = 1; badges <= 1023; badges++) {
            boolean hasIt = badge == -1 || (badges >> badge & 1) == 1;
            meet(x, sign, new int[] {badges});
            if (x.wouldPush(1, 0)) {
                String want = hasIt ? REFUSED : "1";
                due("17: the set " + badges, Check.outcomeOf(() -> x.teach(1, 0)), want);
                with += hasIt ? 1 : 0;
                without += hasIt ? 0 : 1;
            }
            x.restore();
            meet(x, -sign, new int[] {badges});
            if (x.wouldPush(1, 0)) {
                due("17: the set " + badges + " the other way", Check.outcomeOf(() -> x.teach(1, 0)), "1");
                back += hasIt ? 1 : 0;
            }
            x.restore();
        }
        due("17: there were such sets", with > 0, true);
        due("17: and the others", without > 0, badge != -1);
        due("17: and some the other way", back > 0, true);
    }
}
