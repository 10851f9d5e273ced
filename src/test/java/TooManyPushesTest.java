import java.util.NoSuchElementException;

/**
 * Reason 5 in promises 17 to 21 and 31: a counted number would be greater than 60000, or less than 0 by more than that.
 * The visitors were searched for: with those for the bias the 498th call is refused, which is within the 512 calls that
 * the document speaks of. The others need more; there the class goes on as before.
 */
public final class TooManyPushesTest {
    private static final Check CHECK = new Check("TooManyPushesTest");
    /**
     * The bias is pushed far up. Of each phase: the visitors who are forgotten, by their numbers; those who are told,
     * friends as sets and foes as sets with the other sign; and how often 30 days go by.
     */
    private static final int[][][] FOR_BIAS = {
        {{}, {-939, -369, -983, 995, -888, -251, 51, 689, 1014, -759, 637, 475}, {66}},
        {{6}, {307}, {91}},
        {{11}, {371}, {18}},
        {{10}, {475}, {141}},
        {{10}, {315}, {144}},
        {{2, 1}, {433, 635}, {2}},
        {{6, 3, 2, 0}, {497, 891, 443, 1017}, {1}}};
    private static final int[] ALL = {11, 10, 9, 8, 7, 6, 5, 4, 3, 2, 1, 0};
    /** The bias, too, so that there are sets left who push it further when 60000 are counted. */
    private static final int[][][] FOR_BIAS_LATER = {
        {{}, {125, 874, 563, -855, -175, -888, -63, -359, -682, 463, -370, 310}, {130}},
        {ALL, {-123, -754, -363, -190, -854, 350, 691, 874, 370, 125, 223, -881}, {130}},
        {ALL, {947, 370, -761, -243, 626, -854, 125, -363, 1001, 619, -191, 223}, {130}},
        {ALL, {-695, 629, -243, -761, -363, 223, -862, 378, 764, 947, 619, -123}, {130}},
        {ALL, {-247, -761, -829, 619, -1001, -695, -862, 764, 479, 757, 819, 238}, {130}},
        {ALL, {-247, -862, -761, -829, 757, -1001, -695, 282, 764, 619, 819, 479}, {130}}};
    /** And the badge j, further than the bias. */
    private static final int[][][] FOR_LAST = {
        {{}, {-721, -431, -367, -160, 991, 204, 289, 763, -334, 422, -1019, -60}, {130}},
        {ALL, {-64, -288, -670, -116, -1023, 68, 954, 102, 40, 989, 795, 659}, {130}},
        {ALL, {-288, -1023, 814, 989, 659, 794, 1018, 102, 44, -52, -734, -104}, {130}},
        {ALL, {-4, 659, -1023, -116, -730, -292, 989, 102, 44, 859, -97, 1018}, {130}},
        {ALL, {44, -292, -730, 859, 971, -151, -1023, 989, 659, 1018, -97, 102}, {130}},
        {ALL, {907, 795, -292, 102, 1018, 659, -978, 44, -730, -1023, -97, 989}, {130}},
        {ALL, {907, -730, -292, 44, 588, -1023, 989, 795, 102, -97, 1018, 659}, {130}}};
    private static final String REFUSED = "UnsupportedOperationException";

    /** How a gate is made. */
    private interface Maker {
        GateGuards make();
    }

    /** A call on a gate. */
    private interface On {
        Object call(GateGuards y);
    }

    private final String name;
    private final int sign;
    private final int badge;
    private final int[][][] phases;
    /** The days that guard 1 of a worn gate can have before one is refused. */
    private int gone = 0;
    /** The visitor of that day whose lesson is refused. */
    private int visitor = 0;

    private TooManyPushesTest(String name, int sign, int badge, int[][][] phases) {
        this.name = name + ": ";
        this.sign = sign;
        this.badge = badge;
        this.phases = phases;
    }

    public static void main(String[] args) {
        new TooManyPushesTest("bias up", 1, -1, FOR_BIAS).withinUse();
        new TooManyPushesTest("bias down", -1, -1, FOR_BIAS).withinUse();
        new TooManyPushesTest("bias up, later", 1, -1, FOR_BIAS_LATER).live();
        new TooManyPushesTest("bias down, later", -1, -1, FOR_BIAS_LATER).live();
        new TooManyPushesTest("j up", 1, 9, FOR_LAST).live();
        new TooManyPushesTest("j down", -1, 9, FOR_LAST).live();
        CHECK.end();
    }

    private void live() {
        findLastDay();
        findLastLesson();
        days();
        wouldCalm();
        day();
        teach();
        run();
        room();
    }

    private void due(String what, Object got, Object want) {
        CHECK.due(name + what, got, want);
    }

    private static boolean isRefused(Check.Call call) {
        return Check.outcomeOf(call).equals(REFUSED);
    }

    /** Forgets visitors, and tells others; and returns how many calls it took. */
    private static int meet(GateGuards x, int sign, int[] forgotten, int[] told) {
        for (int visitor : forgotten) {
            x.forget(visitor);
        }
        for (int badges : told) {
            x.visitor(Math.abs(badges), sign * badges > 0);
        }
        return forgotten.length + told.length;
    }

    /** Wears guard 1 out until 30 days are refused, and returns how many calls it took. */
    private int wear(GateGuards x) {
        x.guard(5);
        x.guard(64);
        x.caution(1, 256);
        int calls = 3;
        for (int[][] phase : phases) {
            calls += meet(x, sign, phase[0], phase[1]);
            for (int i = 0; i < phase[2][0]; i++) {
                calls++;
                if (isRefused(() -> x.days(1, 30))) {
                    return calls;
                }
            }
        }
        due("it comes to a refusal", false, true);
        return calls;
    }

    /** Guard 1 cannot have 30 days more. */
    private GateGuards worn() {
        GateGuards x = new GateGuards();
        wear(x);
        x.save();
        Check.outcomeOf(() -> x.rate(0, 5));
        due("33: another reason", Check.reasonOf(x), "4 5");
        return x;
    }

    /** All that is asked for here is among the first 512 calls of an object. */
    private void withinUse() {
        findLastDay();
        findLastLesson();
        GateGuards x = new GateGuards();
        due("so many calls", wear(x) + 5 <= 512, true);
        due("33: the reason", x.refusal(false), 5);
        due("33: the detail", x.refusal(true), 1);
        due("20: wouldCalm", Check.outcomeOf(() -> x.wouldCalm(1, 30)), "NoSuchElementException");
        due("19: the days that can be had", x.days(1, gone), gone);
        due("18: no day more", isRefused(() -> x.day(1)), true);
        GateGuards y = new GateGuards();
        due("so many calls for lessons", wear(y) + 1 + visitor + 2 <= 512, true);
        y.days(1, gone);
        for (int i = 0; i < visitor; i++) {
            y.teach(1, i);
        }
        due("17: no lesson more", isRefused(() -> y.teach(1, visitor)), true);
        int counted = sign * y.counted(1, badge);
        due("12: all but 60000", counted > 60000 - 64 && counted <= 60000, true);
    }

    /** Guard 1 cannot have one day more. */
    private GateGuards dayLess() {
        GateGuards x = worn();
        for (int i = 0; i < gone; i++) {
            x.day(1);
        }
        return x;
    }

    /** Guard 1 cannot be taught the visitor. */
    private GateGuards lessonLess() {
        GateGuards x = dayLess();
        for (int i = 0; i < visitor; i++) {
            x.teach(1, i);
        }
        return x;
    }

    private void findLastDay() {
        GateGuards x = worn();
        while (gone < 30 && !isRefused(() -> x.day(1))) {
            gone++;
        }
        due("18: a day before the thirtieth is refused", gone < 30, true);
    }

    /** Lives the refused day lesson by lesson. */
    private void findLastLesson() {
        GateGuards x = dayLess();
        while (visitor < 12 && !isRefused(() -> x.teach(1, visitor))) {
            visitor++;
        }
        due("17: a lesson of this day is refused", visitor < 12, true);
    }

    /** The call is refused, and what can be undone, and the snapshot, are then as they were. */
    private void refused(String what, Maker maker, On on) {
        GateGuards x = maker.make();
        CHECK.refused(name + what, x, 5, 1, () -> on.call(x));
        due(what + ": the past behind it", Check.pastOf(x), Check.pastOf(maker.make()));
    }

    private void days() {
        refused("19: thirty days", this::worn, y -> y.days(1, 30));
        refused("19: a day too much", this::worn, y -> y.days(1, gone + 1));
        refused("19: one day", this::dayLess, y -> y.days(1, 1));
        GateGuards x = worn();
        due("19: as many days as can be had", gone == 0 ? 0 : x.days(1, gone), gone);
        due("19: the same as day by day", Check.gateOf(x), Check.gateOf(dayLess()));
    }

    private void wouldCalm() {
        for (int most : new int[] {30, gone + 1}) {
            GateGuards x = worn();
            CHECK.thrown(name + "20: refused before", x, NoSuchElementException.class, () -> x.wouldCalm(1, most));
            due("20: the past behind it", Check.pastOf(x), Check.pastOf(worn()));
        }
    }

    private void day() {
        refused("18: day", this::dayLess, y -> y.day(1));
    }

    private void teach() {
        GateGuards x = lessonLess();
        due("17: the next push is too much", sign * x.counted(1, badge) + 64 > 60000, true);
        due("17: the last was not", sign * x.counted(1, badge) <= 60000, true);
        refused("17: teach", this::lessonLess, y -> y.teach(1, visitor));
        due("21: the visitor would push", x.wouldPush(1, visitor), true);
        for (int i = 0; i < 12; i++) {
            if (!x.wouldPush(1, i)) {
                due("17: without a push nothing is refused", x.teach(1, i), 0);
            }
        }
    }

    private void run() {
        runRefused(this::dayLess, "d0;d1;d9");
        runRefused(this::lessonLess, "t0:0;d0;g8;t1:" + visitor + ";x99");
        GateGuards x = lessonLess();
        Check.put(x, "g8;x99;t1:" + visitor);
        due("31: an order ahead of it cannot be", Check.outcomeOf(() -> x.run()), "IllegalArgumentException");
        due("33: the reason stays", Check.reasonOf(x), "4 5");
    }

    private void runRefused(Maker maker, String text) {
        GateGuards x = maker.make();
        Check.put(x, text);
        due("31: " + text + " is refused", Check.outcomeOf(() -> x.run()), REFUSED);
        due("33: for reason 5", Check.reasonOf(x), "5 1");
        due("32: it has no error", x.errorPosition(), -1);
        due("31: the input is empty", x.account(7), 0);
        due("31: the past behind it", Check.pastOf(x), Check.pastOf(maker.make()));
    }

    /** What there is room for may be pushed, up to 60000, but no 64th more. */
    private void room() {
        GateGuards x = lessonLess();
        int room = 60000 - sign * x.counted(1, badge);
        due("17: there is room for less than a push of 64", room >= 0 && room < 64, true);
        x.rate(1, room + 1);
        CHECK.refused(name + "17: a 64th too much", x, 5, 1, () -> x.teach(1, visitor));
        x.rate(1, room);
        due("17: as much as there is room for", x.teach(1, visitor), 1);
        due("12: counted 60000", x.counted(1, badge), sign * 60000);
        due("11: its bits", x.weightBits(1, badge), Float.floatToIntBits(sign * 937.5f));
        due("35: all is well", x.isWell(), true);
        eachSet(x);
        x.guardLine(1);
        due("28: the line has the number", Check.lineOf(x).contains(sign > 0 ? "60000" : "-60000"), true);
    }

    /** With 60000 counted for the badge those who have it cannot be pushed further; others can be, and these back. */
    private void eachSet(GateGuards x) {
        int with = 0;
        int without = 0;
        int back = 0;
        x.save();
        int[] everybody = new int[x.account(1)];
        for (int badges = 1; badges <= 1023; badges++) {
            boolean hasIt = badge == -1 || (badges >> badge & 1) == 1;
            meet(x, sign, everybody, new int[] {badges});
            if (x.wouldPush(1, 0)) {
                String want = hasIt ? REFUSED : "1";
                due("17: the set " + badges, Check.outcomeOf(() -> x.teach(1, 0)), want);
                with += hasIt ? 1 : 0;
                without += hasIt ? 0 : 1;
            }
            x.restore();
            meet(x, -sign, everybody, new int[] {badges});
            if (x.wouldPush(1, 0)) {
                due("17: the set " + badges + " the other way", Check.outcomeOf(() -> x.teach(1, 0)), "1");
                back += hasIt ? 1 : 0;
            }
            x.restore();
        }
        due("17: there were such sets", with > 0, true);
        due("17: and the others", without > 0, badge != -1);
        due("17: and some the other way", back > 0, true);
    }
}
