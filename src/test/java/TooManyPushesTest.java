import java.util.NoSuchElementException;

/**
 * Reason 5 in promises 17 to 21 and 31: a counted number would be greater than 60000, or less than 0 by more than that.
 * The visitors were searched for, since numbers so large need some hundred calls of days with ever other visitors; this
 * takes more than the 512 calls for which the document promises something, but the class goes on as before.
 */
public final class TooManyPushesTest {
    private static final Check CHECK = new Check("TooManyPushesTest");
    /** Visitors, friends as sets and foes as sets with the other sign, who push the bias far up. */
    private static final int[][] FOR_BIAS = {
        {125, 874, 563, -855, -175, -888, -63, -359, -682, 463, -370, 310},
        {-123, -754, -363, -190, -854, 350, 691, 874, 370, 125, 223, -881},
        {947, 370, -761, -243, 626, -854, 125, -363, 1001, 619, -191, 223},
        {-695, 629, -243, -761, -363, 223, -862, 378, 764, 947, 619, -123},
        {-247, -761, -829, 619, -1001, -695, -862, 764, 479, 757, 819, 238},
        {-247, -862, -761, -829, 757, -1001, -695, 282, 764, 619, 819, 479}};
    /** And such who push the badge j further than the bias. */
    private static final int[][] FOR_LAST = {
        {-721, -431, -367, -160, 991, 204, 289, 763, -334, 422, -1019, -60},
        {-64, -288, -670, -116, -1023, 68, 954, 102, 40, 989, 795, 659},
        {-288, -1023, 814, 989, 659, 794, 1018, 102, 44, -52, -734, -104},
        {-4, 659, -1023, -116, -730, -292, 989, 102, 44, 859, -97, 1018},
        {44, -292, -730, 859, 971, -151, -1023, 989, 659, 1018, -97, 102},
        {907, 795, -292, 102, 1018, 659, -978, 44, -730, -1023, -97, 989},
        {907, -730, -292, 44, 588, -1023, 989, 795, 102, -97, 1018, 659}};

    private final GateGuards x = new GateGuards();
    private final String name;
    private final int sign;
    private final int badge;

    private TooManyPushesTest(String name, int sign, int badge) {
        this.name = name + ": ";
        this.sign = sign;
        this.badge = badge;
    }

    public static void main(String[] args) {
        new TooManyPushesTest("bias up", 1, -1).live(FOR_BIAS);
        new TooManyPushesTest("bias down", -1, -1).live(FOR_BIAS);
        new TooManyPushesTest("j up", 1, 9).live(FOR_LAST);
        new TooManyPushesTest("j down", -1, 9).live(FOR_LAST);
        CHECK.end();
    }

    private void live(int[][] phases) {
        x.guard(5);
        x.guard(64);
        x.caution(1, 256);
        boolean isRefused = false;
        for (int i = 0; i < phases.length && !isRefused; i++) {
            meet(phases[i]);
            isRefused = daysUntilRefused();
        }
        CHECK.due(name + "it comes to a refusal", isRefused, true);
        due("19: days", 60000 - 64 * 360 < sign * x.counted(1, badge), true);
        CHECK.refused(name + "19: days", x, 5, 1, () -> x.days(1, 30));
        wouldCalm();
        day();
        int visitor = lessonsUntilRefused();
        teach(visitor);
        run(visitor);
        room(visitor);
    }

    private void due(String what, Object got, Object want) {
        CHECK.due(name + what, got, want);
    }

    private void meet(int[] visitors) {
        while (x.account(1) > 0) {
            x.forget(0);
        }
        for (int badges : visitors) {
            x.visitor(Math.abs(badges), sign * badges > 0);
        }
    }

    private boolean daysUntilRefused() {
        for (int i = 0; i < 130; i++) {
            if (Check.outcomeOf(() -> x.days(1, 30)).equals("UnsupportedOperationException")) {
                return true;
            }
        }
        return false;
    }

    private void otherReason() {
        CHECK.refused(name + "33: another reason", x, 4, 5, () -> x.rate(0, 5));
    }

    private void wouldCalm() {
        otherReason();
        CHECK.thrown(name + "20: refused before", x, NoSuchElementException.class, () -> x.wouldCalm(1, 30));
    }

    private void day() {
        int gone = 0;
        while (gone < 30 && !Check.outcomeOf(() -> x.day(1)).equals("UnsupportedOperationException")) {
            gone++;
        }
        due("18: a day before the thirtieth is refused", gone < 30, true);
        CHECK.refused(name + "18: day", x, 5, 1, () -> x.day(1));
        CHECK.refused(name + "19: days at once", x, 5, 1, () -> x.days(1, 1));
    }

    /** Lives the refused day lesson by lesson. */
    private int lessonsUntilRefused() {
        for (int i = 0; i < 12; i++) {
            int visitor = i;
            if (Check.outcomeOf(() -> x.teach(1, visitor)).equals("UnsupportedOperationException")) {
                return visitor;
            }
        }
        due("17: a lesson of this day is refused", false, true);
        return 0;
    }

    private void teach(int visitor) {
        due("17: the next push is too much", sign * x.counted(1, badge) + 64 > 60000, true);
        due("17: the last was not", sign * x.counted(1, badge) <= 60000, true);
        otherReason();
        CHECK.refused(name + "17: teach", x, 5, 1, () -> x.teach(1, visitor));
        due("21: the visitor would push", x.wouldPush(1, visitor), true);
        int unmoved = -1;
        for (int i = 0; i < 12; i++) {
            unmoved = x.wouldPush(1, i) ? unmoved : i;
        }
        due("17: without a push nothing is refused", unmoved < 0 ? 0 : x.teach(1, unmoved), 0);
    }

    private void run(int visitor) {
        Check.put(x, "t0:0;d0;g8;t1:" + visitor + ";x99");
        String gate = Check.gateOf(x);
        due("31: a lesson is refused", Check.outcomeOf(() -> x.run()), "UnsupportedOperationException");
        due("33: for reason 5", Check.reasonOf(x), "5 1");
        due("31: nothing is carried out", Check.gateOf(x), gate);
        otherReason();
        x.save();
        for (int i = 0; i < visitor; i++) {
            x.forget(0);
        }
        Check.put(x, "d0;d1;d9");
        due("31: a day is refused", Check.outcomeOf(() -> x.run()), "UnsupportedOperationException");
        due("33: for reason 5 again", Check.reasonOf(x), "5 1");
        x.restore();
    }

    /** What there is room for may be pushed, up to 60000, but no 64th more. */
    private void room(int visitor) {
        int room = 60000 - sign * x.counted(1, badge);
        due("17: there is room for less than a push of 64", room >= 0 && room < 64, true);
        x.rate(1, room + 1);
        CHECK.refused(name + "17: a 64th too much", x, 5, 1, () -> x.teach(1, visitor));
        x.rate(1, room);
        due("17: as much as there is room for", x.teach(1, visitor), 1);
        due("12: counted 60000", x.counted(1, badge), sign * 60000);
        due("11: its bits", x.weightBits(1, badge), Float.floatToIntBits(sign * 937.5f));
        due("35: all is well", x.isWell(), true);
        eachSet();
        x.guardLine(1);
        due("28: the line has the number", Check.lineOf(x).contains(sign > 0 ? "60000" : "-60000"), true);
    }

    /** With 60000 counted for the badge those who have it cannot be pushed further, and those without it can be. */
    private void eachSet() {
        int with = 0;
        int without = 0;
        x.save();
        for (int badges = 1; badges <= 1023; badges++) {
            meet(new int[] {badges});
            if (x.wouldPush(1, 0)) {
                boolean hasIt = badge == -1 || (badges >> badge & 1) == 1;
                String want = hasIt ? "UnsupportedOperationException" : "1";
                due("17: the set " + badges, Check.outcomeOf(() -> x.teach(1, 0)), want);
                with += hasIt ? 1 : 0;
                without += hasIt ? 0 : 1;
            }
            x.restore();
        }
        due("17: there were such sets", with > 0, true);
        due("17: and the others", without > 0, badge != -1);
    }
}
