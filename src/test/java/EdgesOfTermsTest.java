import java.util.NoSuchElementException;

/**
 * The boundary cases that "What it is" and "Terms" name: a method for each sentence, which stands ahead of it. Calls
 * that throw are looked at in RefusedCallsTest, texts in EdgesOfTextsTest, and reason 5 in TooManyPushesTest.
 */
public final class EdgesOfTermsTest {
    private static final Check CHECK = new Check("EdgesOfTermsTest");
    private static final Class<?> STATE = IllegalStateException.class;

    public static void main(String[] args) {
        use();
        badges();
        sets();
        twelveVisitors();
        noTwoTheSame();
        forgotten();
        fourGuards();
        rates();
        cautions();
        atFirst();
        steps();
        margins();
        letIn();
        mistaken();
        caution();
        mistakenBeyondCaution();
        pushes();
        weightsThatAreSoThen();
        calmDays();
        sums();
        means();
        knowing();
        ties();
        equals();
        reasons();
        changes();
        noChanges();
        latestEight();
        ringOfChanges();
        restoreForgetsAll();
        whatStays();
        inDoubt();
        noNegativeZero();
        CHECK.end();
    }

    /** A gate with guards of these rates. */
    private static GateGuards guards(int... rates) {
        GateGuards x = new GateGuards();
        for (int rate : rates) {
            x.guard(rate);
        }
        return x;
    }

    /** Tells visitors: a friend by the set, a foe by the set with the other sign. */
    private static void meet(GateGuards x, int... visitors) {
        for (int visitor : visitors) {
            x.visitor(Math.abs(visitor), visitor > 0);
        }
    }

    private static String visitors(GateGuards x) {
        StringBuilder all = new StringBuilder();
        for (int i = 0; i < x.account(1); i++) {
            all.append(x.visitorOf(i, 1) == 1 ? " +" : " -").append(x.visitorOf(i, 0));
        }
        return all.toString();
    }

    private static String counts(GateGuards x, int guard) {
        x.guardLine(guard);
        return Check.lineOf(x);
    }

    private static void setRate(GateGuards x, int rate) {
        if (x.guardOf(0, 0) != rate) {
            x.rate(0, rate);
        }
    }

    private static void setCaution(GateGuards x, int caution) {
        if (x.guardOf(0, 1) != caution) {
            x.caution(0, caution);
        }
    }

    /** One guard, of caution 0, with this margin, in 64ths, for the badge a alone, and no visitors. */
    private static GateGuards withMargin(int margin) {
        GateGuards x = guards(64);
        x.caution(0, 256);
        int sign = margin < 0 ? -1 : 1;
        int left = margin * sign;
        if (left % 2 == 1) {
            // a visitor without a moves the margin by the bias alone
            teachAlone(x, 2 * sign, 1);
            left--;
        }
        while (left > 0) {
            int rate = Math.min(left / 2, 64);
            teachAlone(x, sign, rate);
            left -= 2 * rate;
        }
        x.caution(0, 0);
        CHECK.due("the margin as wanted", x.margin(0, 1, false), margin / 64.0f);
        CHECK.due("the margin as wanted, by pushes", x.margin(0, 1, true), margin / 64.0f);
        return x;
    }

    private static void teachAlone(GateGuards x, int visitor, int rate) {
        meet(x, visitor);
        setRate(x, rate);
        CHECK.due("a push", x.teach(0, 0), 1);
        x.forget(0);
    }

    /** "An object is used for at most 512 calls after it has been made" */
    private static void use() {
        GateGuards x = new GateGuards();
        for (int call = 1; call <= 512; call++) {
            int badges = call;
            CHECK.due("use: call " + call, call % 2 == 1 ? x.visitor(badges, true) : x.forget(0), 0);
        }
        GateGuards y = guards(64);
        meet(y, 3, 12, -5, -10);
        for (int call = 6; call <= 511; call++) {
            CHECK.due("use: call " + call, y.days(0, 30), 30);
        }
        CHECK.due("use: call 512", y.guardOf(0, 2), 506 * 30);
    }

    /** "There are the badges 0 to 9, written as a to j." */
    private static void badges() {
        for (int badge = 0; badge <= 9; badge++) {
            GateGuards x = guards(64);
            meet(x, 1 << badge);
            x.line(0);
            CHECK.due("badges: the letter of " + badge, Check.lineOf(x), "+" + "abcdefghij".charAt(badge));
            x.teach(0, 0);
            for (int other = 0; other <= 9; other++) {
                CHECK.due("badges: pushed for " + other, x.counted(0, other), other == badge ? 64 : 0);
            }
        }
        GateGuards x = guards(1);
        meet(x, 1);
        x.day(0);
        for (int none : new int[] {-1, 10}) {
            CHECK.thrown("badges: mean " + none, x, IllegalArgumentException.class, () -> x.mean(0, none));
            CHECK.thrown("badges: place " + none, x, NoSuchElementException.class, () -> x.strongest(0, none));
        }
        CHECK.due("badges: mean 9", x.mean(0, 9), 0.0f);
        CHECK.due("badges: place 9", x.strongest(0, 9), 9);
    }

    /** "A set of badges is told as a number from 1 to 1023: bit k for the badge k." */
    private static void sets() {
        GateGuards x = new GateGuards();
        for (int set = 1; set <= 1023; set++) {
            int badges = set;
            if (set % 60 == 1) {
                x = guards(1);
            }
            GateGuards y = x;
            CHECK.due("sets: " + set, y.visitor(badges, false), 0);
            StringBuilder letters = new StringBuilder("-");
            for (int badge = 0; badge < 10; badge++) {
                letters.append((set / (1 << badge)) % 2 == 1 ? String.valueOf((char) ('a' + badge)) : "");
            }
            CHECK.due("sets: as long as its letters: " + set, y.line(0), letters.length());
            CHECK.due("sets: its letters: " + set, Check.lineOf(y), letters.toString());
            CHECK.due("sets: its number: " + set, y.visitorOf(0, 0), set);
            CHECK.due("sets: its badges: " + set, y.visitorOf(0, 2), letters.length() - 1);
            y.forget(0);
        }
    }

    /** "At most 12 visitors are known, numbered from 0, each a friend or a foe, with a set of badges" */
    private static void twelveVisitors() {
        GateGuards x = guards(1);
        for (int i = 0; i < 12; i++) {
            CHECK.due("visitors: the number", x.visitor(1023 - i, i % 2 == 0), i);
        }
        CHECK.refused("visitors: a thirteenth", x, 1, 12, () -> x.visitor(1, true));
        CHECK.due("visitors: twelve", x.account(1), 12);
        CHECK.due("visitors: the first", x.visitorOf(0, 0) + " " + x.visitorOf(0, 1), "1023 1");
        CHECK.due("visitors: the last", x.visitorOf(11, 0) + " " + x.visitorOf(11, 1), "1012 0");
        CHECK.due("visitors: the last among the foes", x.visitorOf(11, 4), 5);
        CHECK.due("visitors: all are met on a day", x.day(0), x.guardOf(0, 3));
        CHECK.due("visitors: twelve lessons", x.guardOf(0, 6), 12);
        CHECK.due("visitors: eleven", x.forget(11), 11);
        CHECK.due("visitors: a twelfth again", x.visitor(1, true), 11);
    }

    /** "no two have the same set" */
    private static void noTwoTheSame() {
        GateGuards x = new GateGuards();
        meet(x, 1, -1023, 512);
        CHECK.refused("same: the first", x, 2, 0, () -> x.visitor(1, true));
        CHECK.refused("same: a foe as the first", x, 2, 0, () -> x.visitor(1, false));
        CHECK.refused("same: the second", x, 2, 1, () -> x.visitor(1023, true));
        CHECK.refused("same: the last", x, 2, 2, () -> x.visitor(512, false));
        x.forget(0);
        CHECK.refused("same: the last moved up", x, 2, 1, () -> x.visitor(512, false));
        CHECK.due("same: the first is gone", x.visitor(1, false), 2);
        x.undo();
        x.undo();
        CHECK.refused("same: the first is back", x, 2, 0, () -> x.visitor(1, true));
    }

    /** "When one is forgotten, the numbers of those behind become 1 less." */
    private static void forgotten() {
        GateGuards x = new GateGuards();
        meet(x, 1, -2, 3, -4, 5, -6, 7, -8, 9, -10, 11, -12);
        CHECK.due("forgotten: the first of twelve", x.forget(0), 11);
        CHECK.due("forgotten: all move up", visitors(x), " -2 +3 -4 +5 -6 +7 -8 +9 -10 +11 -12");
        CHECK.due("forgotten: the last", x.forget(10), 10);
        CHECK.due("forgotten: none moves", visitors(x), " -2 +3 -4 +5 -6 +7 -8 +9 -10 +11");
        CHECK.due("forgotten: the last but one", x.forget(8), 9);
        CHECK.due("forgotten: one moves", visitors(x), " -2 +3 -4 +5 -6 +7 -8 +9 +11");
        CHECK.due("forgotten: the second", x.forget(1), 8);
        CHECK.due("forgotten: those behind move", visitors(x), " -2 -4 +5 -6 +7 -8 +9 +11");
        CHECK.due("forgotten: their places, too", x.visitorOf(1, 4) + " " + x.visitorOf(2, 4), "1 0");
        for (int left = 7; left >= 0; left--) {
            CHECK.due("forgotten: left", x.forget(left), left);
        }
        CHECK.due("forgotten: nobody is left", visitors(x), "");
    }

    /** "At most 4 guards stand at the gate, numbered from 0." */
    private static void fourGuards() {
        GateGuards x = new GateGuards();
        for (int i = 0; i < 4; i++) {
            CHECK.due("guards: so many", x.account(0), i);
            CHECK.due("guards: the number", x.guard(i + 10), i);
        }
        CHECK.refused("guards: a fifth", x, 1, 4, () -> x.guard(1));
        CHECK.due("guards: four", x.account(0), 4);
        CHECK.due("guards: the first", x.guardOf(0, 0), 10);
        CHECK.due("guards: the last", x.guardOf(3, 0), 13);
        x.undo();
        CHECK.due("guards: a fourth again", x.guard(64), 3);
        CHECK.due("guards: with its own rate", x.guardOf(3, 0), 64);
    }

    /** "A guard has a rate, told as a number of 64ths from 1 to 64" */
    private static void rates() {
        for (int rate = 1; rate <= 64; rate++) {
            int wanted = rate;
            GateGuards x = new GateGuards();
            CHECK.due("rates: guard " + rate, x.guard(wanted), 0);
            CHECK.due("rates: rate from " + rate, x.rate(0, 65 - wanted), rate);
            CHECK.due("rates: is kept", x.guardOf(0, 0), 65 - rate);
        }
    }

    /** "a caution, told as a number of 64ths from 0 to 256, at first 0" */
    private static void cautions() {
        GateGuards x = guards(64, 1);
        CHECK.due("cautions: at first", x.guardOf(0, 1) + " " + x.guardOf(1, 1), "0 0");
        CHECK.refused("cautions: it is 0 already", x, 4, 0, () -> x.caution(0, 0));
        for (int caution = 1; caution <= 256; caution++) {
            CHECK.due("cautions: before " + caution, x.caution(0, caution), caution - 1);
        }
        CHECK.refused("cautions: it is 256 already", x, 4, 256, () -> x.caution(0, 256));
        CHECK.due("cautions: back to 0", x.caution(0, 0), 256);
        CHECK.due("cautions: the other is as at first", x.guardOf(1, 1), 0);
    }

    /** "as floats, a bias and a weight for each badge, at first 0.0f" */
    private static void atFirst() {
        GateGuards x = guards(64);
        meet(x, 1023);
        x.days(0, 30);
        x.guard(64);
        isAtFirst("another guard", x, 1);
        x.save();
        x.caution(1, 256);
        x.days(1, 3);
        x.undo();
        x.undo();
        x.undo();
        CHECK.due("at first: again", x.guard(64), 1);
        isAtFirst("in place of one undone", x, 1);
        x.restore();
        isAtFirst("a guard restored", x, 1);
        GateGuards y = new GateGuards();
        y.visitor(1023, true);
        y.save();
        y.guard(64);
        y.caution(0, 256);
        y.days(0, 3);
        y.restore();
        y.guard(64);
        isAtFirst("in place of one whom restore took away", y, 0);
        y.day(0);
        for (int badge = 0; badge <= 9; badge++) {
            CHECK.due("at first: the sum was 0, too, for " + badge, y.mean(0, badge), 1.0f);
        }
    }

    private static void isAtFirst(String who, GateGuards x, int guard) {
        for (int badge = -1; badge <= 9; badge++) {
            CHECK.due("at first: " + who + ": the bits of " + badge, x.weightBits(guard, badge), 0);
            CHECK.due("at first: " + who + ": counted for " + badge, x.counted(guard, badge), 0);
        }
        for (int what = 1; what <= 6; what++) {
            CHECK.due("at first: " + who + ": number " + what, x.guardOf(guard, what), what == 4 ? 1 : 0);
        }
        CHECK.due("at first: " + who + ": the margin", x.margin(guard, 1023, false), 0.0f);
        CHECK.due("at first: " + who + ": the margin by pushes", x.margin(guard, 1023, true), 0.0f);
    }

    /** "The step of a guard is the rate as a float, divided by 64.0f." */
    private static void steps() {
        for (int rate : new int[] {1, 2, 63, 64}) {
            GateGuards x = guards(rate);
            meet(x, 512, -1);
            x.teach(0, 0);
            CHECK.due("steps: up by " + rate, x.weightBits(0, 9), Float.floatToIntBits(rate / 64.0f));
            CHECK.due("steps: the bias by " + rate, x.weightBits(0, -1), Float.floatToIntBits(rate / 64.0f));
            x.teach(0, 1);
            CHECK.due("steps: down by " + rate, x.weightBits(0, 0), Float.floatToIntBits(-rate / 64.0f));
            CHECK.due("steps: the bias is 0 again", x.weightBits(0, -1), 0);
        }
    }

    /** "the bias, to which the weights of its badges are added, one by one from the badge 0 on" */
    private static void margins() {
        GateGuards x = guards(1);
        x.caution(0, 256);
        for (int badge = 0; badge <= 9; badge++) {
            setRate(x, badge + 2);
            meet(x, 1 << badge);
            x.teach(0, 0);
            x.forget(0);
        }
        // bias 65, badge k has k + 2
        for (int set = 1; set <= 1023; set++) {
            int due = 65;
            for (int badge = 0; badge <= 9; badge++) {
                due += (set >> badge & 1) * (badge + 2);
            }
            CHECK.due("margins: of " + set, x.margin(0, set, false), due / 64.0f);
            CHECK.due("margins: of " + set + " by pushes", x.margin(0, set, true), due / 64.0f);
        }
    }

    /** "A set is let in if its margin is greater than 0, and kept out otherwise." */
    private static void letIn() {
        for (int margin : new int[] {-256, -64, -2, -1, 0, 1, 2, 64, 256}) {
            GateGuards x = withMargin(margin);
            boolean due = margin > 0;
            CHECK.due("let in: " + margin, x.letsIn(0, 1), due);
            CHECK.due("let in: votes at " + margin, x.votes(1), due ? 1 : 0);
            CHECK.due("let in: by vote at " + margin, x.isVotedIn(1), due);
            meet(x, 1);
            CHECK.due("let in: a friend at " + margin, x.guardOf(0, 4), due ? 0 : 1);
            CHECK.due("let in: mistaken about the friend at " + margin, x.visitorOf(0, 3), due ? 0 : 1);
            CHECK.due("let in: the vote about the friend at " + margin, x.mistaken(), due ? 0 : 1);
            CHECK.due("let in: the account of the friend at " + margin, x.account(6), due ? 0 : 1);
            x.forget(0);
            meet(x, -1);
            CHECK.due("let in: a foe at " + margin, x.guardOf(0, 4), due ? 1 : 0);
            CHECK.due("let in: mistaken about the foe at " + margin, x.visitorOf(0, 3), due ? 1 : 0);
            CHECK.due("let in: the vote about the foe at " + margin, x.mistaken(), due ? 1 : 0);
            CHECK.due("let in: the account of the foe at " + margin, x.account(6), due ? 1 : 0);
        }
    }

    /** Looks whether a lesson of the badge a pushes, by each call that tells it. */
    private static void lesson(String name, int margin, int caution, boolean isFriend, boolean isPush) {
        String what = name + (isFriend ? ": a friend" : ": a foe") + " at " + margin + ", caution " + caution;
        GateGuards x = withMargin(margin);
        setRate(x, 64);
        setCaution(x, caution);
        meet(x, isFriend ? 1 : -1);
        int step = isPush ? isFriend ? 64 : -64 : 0;
        int bias = x.counted(0, -1) + step;
        int weight = x.counted(0, 0) + step;
        int pushes = x.guardOf(0, 3) + (isPush ? 1 : 0);
        CHECK.due(what + ": wouldPush", x.wouldPush(0, 0), isPush);
        CHECK.due(what + ": wouldCalm", Check.outcomeOf(() -> x.wouldCalm(0, 1)), isPush ? "NoSuchElementException" : "1");
        CHECK.due(what + ": day", x.day(0), isPush ? 1 : 0);
        x.undo();
        CHECK.due(what + ": teach", x.teach(0, 0), isPush ? 1 : 0);
        CHECK.due(what + ": the bias", x.counted(0, -1), bias);
        CHECK.due(what + ": the weight", x.counted(0, 0), weight);
        CHECK.due(what + ": the bits of the bias", x.weightBits(0, -1), Float.floatToIntBits(bias / 64.0f));
        CHECK.due(what + ": the bits of the weight", x.weightBits(0, 0), Float.floatToIntBits(weight / 64.0f));
        CHECK.due(what + ": pushes", x.guardOf(0, 3), pushes);
    }

    /** "pushes if the guard is mistaken, who keeps a friend out or lets a foe in" */
    private static void mistaken() {
        for (int margin : new int[] {-65, -1, 0, 1, 65}) {
            lesson("mistaken", margin, 0, true, margin <= 0);
            lesson("mistaken", margin, 0, false, margin > 0);
        }
    }

    /** "the margin, or the margin with the other sign, whichever is not negative, is less than the caution" */
    private static void caution() {
        for (int caution : new int[] {1, 2, 64, 255, 256}) {
            lesson("caution", caution - 1, caution, true, true);
            lesson("caution", caution, caution, true, false);
            lesson("caution", caution + 1, caution, true, false);
            lesson("caution", 1 - caution, caution, false, true);
            lesson("caution", -caution, caution, false, false);
            lesson("caution", -1 - caution, caution, false, false);
        }
        lesson("caution", 0, 1, false, true);
        lesson("caution", 0, 0, false, false);
        lesson("caution", 1, 0, true, false);
        lesson("caution", -1, 0, false, false);
    }

    /** The same sentence: one who is mistaken is pushed, as large as the margin may be. */
    private static void mistakenBeyondCaution() {
        for (int caution : new int[] {0, 1, 64, 256}) {
            for (int beyond : new int[] {-1, 0, 1}) {
                int margin = Math.max(caution + beyond, 1);
                lesson("mistaken", -margin, caution, true, true);
                lesson("mistaken", margin, caution, false, true);
            }
        }
    }

    /** "adds the step to the bias and to the weights of the badges of the visitor, if this is a friend" */
    private static void pushes() {
        GateGuards x = guards(3);
        meet(x, 513);
        x.teach(0, 0);
        CHECK.due("pushes: the first and the last badge", counts(x, 0), "3 3 0 0 0 0 0 0 0 0 3");
        meet(x, -1023);
        x.teach(0, 1);
        CHECK.due("pushes: all badges", counts(x, 0), "0 0 -3 -3 -3 -3 -3 -3 -3 -3 0");
        x.rate(0, 64);
        x.caution(0, 256);
        x.teach(0, 1);
        CHECK.due("pushes: by the rate that is so then", counts(x, 0), "-64 -64 -67 -67 -67 -67 -67 -67 -67 -67 -64");
    }

    /** "taught all visitors, one by one by their numbers, each with the weights that are so then" */
    private static void weightsThatAreSoThen() {
        GateGuards x = guards(64);
        meet(x, 1, -2, 4);
        // a pushes; the foe b is let in by the bias then, and pushes; the friend c is kept out then, and pushes
        CHECK.due("days: three pushes", x.day(0), 3);
        CHECK.due("days: one by one", counts(x, 0), "64 64 -64 64 0 0 0 0 0 0 0");
        GateGuards y = guards(64);
        meet(y, -2, 1, 4);
        // the foe b is kept out at first; a pushes; the friend c is let in by the bias then
        CHECK.due("days: one push in another order", y.day(0), 1);
        CHECK.due("days: so it goes by the numbers", counts(y, 0), "64 64 0 0 0 0 0 0 0 0 0");
    }

    /** "A day is calm if nothing is pushed on it." */
    private static void calmDays() {
        GateGuards x = guards(64);
        meet(x, -1);
        CHECK.due("calm: no push", x.day(0), 0);
        CHECK.due("calm: at once", x.wouldCalm(0, 1), 1);
        CHECK.due("calm: one day", x.days(0, 30), 1);
        meet(x, 2);
        CHECK.thrown("calm: a push", x, NoSuchElementException.class, () -> x.wouldCalm(0, 1));
        CHECK.due("calm: a push on the day", x.day(0), 1);
        CHECK.due("calm: the foe is let in then", x.wouldPush(0, 0), true);
        int due = x.wouldCalm(0, 30);
        CHECK.thrown("calm: not before", x, NoSuchElementException.class, () -> x.wouldCalm(0, due - 1));
        CHECK.due("calm: the last that is looked at", x.wouldCalm(0, due), due);
        for (int day = 1; day <= due; day++) {
            CHECK.due("calm: day " + day, x.day(0) == 0, day == due);
        }
    }

    /** "At the end of a day the weight of each badge is added to the sum for this badge, which is a float, too." */
    private static void sums() {
        GateGuards x = guards(64);
        meet(x, 1, -3);
        // b alone, behind the two pushes of the day, and not a, which was 64 amid the day
        x.day(0);
        CHECK.due("sums: of a", x.mean(0, 0), 0.0f);
        CHECK.due("sums: of b", x.mean(0, 1), -1.0f);
        CHECK.due("sums: of j", x.mean(0, 9), 0.0f);
        x.teach(0, 0);
        CHECK.due("sums: a lesson adds nothing", x.mean(0, 0), 0.0f);
        x.forget(1);
        x.day(0);
        CHECK.due("sums: a calm day adds", x.mean(0, 0), 0.5f);
        CHECK.due("sums: also for those whom nobody wears", x.mean(0, 1), -1.0f);
    }

    /** "The mean weight is this sum divided by the days of the guard, as a float." */
    private static void means() {
        GateGuards x = guards(1);
        meet(x, -512);
        CHECK.thrown("means: no days", x, ArithmeticException.class, () -> x.mean(0, 0));
        x.day(0);
        CHECK.due("means: one day without a push", x.mean(0, 0), 0.0f);
        meet(x, 1);
        x.day(0);
        CHECK.due("means: 1 64th on one day of two", x.mean(0, 0), 1.0f / 64.0f / 2.0f);
        // the foe j is let in by the bias then, once
        for (int day = 3; day <= 100; day++) {
            x.day(0);
            CHECK.due("means: of a on day " + day, x.mean(0, 0), (day - 1) / 64.0f / day);
            CHECK.due("means: of j on day " + day, x.mean(0, 9), -(day - 2) / 64.0f / day);
            CHECK.due("means: of b on day " + day, x.mean(0, 1), 0.0f);
        }
        x.undo();
        CHECK.due("means: a day is undone", x.guardOf(0, 2), 99);
        CHECK.due("means: and what it added, too", x.mean(0, 9), -97 / 64.0f / 99);
    }

    /** "the margin of the badges for a friend, and 0.0f less this margin for a foe" */
    private static void knowing() {
        for (int margin : new int[] {-256, -1, 0, 1, 256}) {
            GateGuards x = withMargin(margin);
            meet(x, 1);
            CHECK.due("knowing: a friend at " + margin, x.knows(0, 0), margin / 64.0f);
            x.forget(0);
            meet(x, -1);
            CHECK.due("knowing: a foe at " + margin, x.knows(0, 0), 0.0f - margin / 64.0f);
        }
    }

    /** "A set of badges is let in by vote if more guards let it in than keep it out." */
    private static void ties() {
        for (int guards = 0; guards <= 4; guards++) {
            for (int forIt = 0; forIt <= guards; forIt++) {
                GateGuards x = new GateGuards();
                meet(x, 1);
                for (int guard = 0; guard < guards; guard++) {
                    x.guard(1);
                    if (guard < forIt) {
                        x.teach(guard, 0);
                    }
                }
                String what = "votes: " + forIt + " of " + guards;
                CHECK.due(what, x.votes(1), forIt);
                CHECK.due(what + ", more", x.isVotedIn(1), forIt > guards - forIt);
                CHECK.due(what + ", the friend", x.mistaken(), forIt > guards - forIt ? 0 : 1);
                x.forget(0);
                meet(x, -1);
                CHECK.due(what + ", the foe", x.mistaken(), forIt > guards - forIt ? 1 : 0);
            }
        }
    }

    /** "of several the lowest" (promises 14 and 15), "then the lowest" (promise 26) */
    private static void equals() {
        GateGuards x = guards(64, 64, 64, 64);
        meet(x, 512, 3);
        for (int i = 0; i < 4; i++) {
            CHECK.due("equals: guards", x.ranked(i), i);
        }
        for (int i = 0; i < 10; i++) {
            CHECK.due("equals: badges", x.strongest(0, i), i);
        }
        CHECK.due("equals: visitors", x.closest(0), 0);
        x.teach(0, 0);
        CHECK.due("equals: the last badge is the strongest", x.strongest(0, 0), 9);
        CHECK.due("equals: then the lowest", x.strongest(0, 1) + " " + x.strongest(0, 9), "0 8");
        CHECK.due("equals: the last visitor is known least well", x.closest(0), 1);
        x.teach(3, 0);
        CHECK.due("equals: 0 and 3 have none mistaken, and a push", x.ranked(0) + " " + x.ranked(1), "0 3");
        CHECK.due("equals: 1 and 2 behind", x.ranked(2) + " " + x.ranked(3), "1 2");
    }

    /** "1, there are 4 guards, or 12 visitors: this number; 2, ..; 3, ..: how many guards there are; 4, ..: the 64ths" */
    private static void reasons() {
        GateGuards x = new GateGuards();
        for (int guards = 1; guards <= 4; guards++) {
            x.guard(guards == 1 ? 1 : 64);
            int last = guards - 1;
            CHECK.refused("reasons: no visitors for a day", x, 3, guards, () -> x.day(last));
            CHECK.refused("reasons: no visitors for days", x, 3, guards, () -> x.days(0, 1));
        }
        CHECK.refused("reasons: the least rate", x, 4, 1, () -> x.rate(0, 1));
        CHECK.refused("reasons: the greatest rate", x, 4, 64, () -> x.rate(3, 64));
        CHECK.refused("reasons: the least caution", x, 4, 0, () -> x.caution(3, 0));
        x.caution(3, 256);
        CHECK.refused("reasons: the greatest caution", x, 4, 256, () -> x.caution(3, 256));
        CHECK.refused("reasons: a fifth guard", x, 1, 4, () -> x.guard(1));
        for (int i = 0; i < 12; i++) {
            meet(x, i + 1);
            int same = i + 1;
            CHECK.refused("reasons: the same set", x, 2, i, () -> x.visitor(same, false));
            CHECK.refused("reasons: the same set as the first", x, 2, 0, () -> x.visitor(1, false));
        }
        CHECK.refused("reasons: a thirteenth visitor", x, 1, 12, () -> x.visitor(13, false));
        CHECK.refused("reasons: 2 is ahead of 1", x, 2, 11, () -> x.visitor(12, false));
        CHECK.refused("reasons: the latest counts", x, 1, 12, () -> x.visitor(1023, true));
    }

    /** "The changes are the successful calls of guard, rate, caution, visitor, forget, teach, day, days and run." */
    private static void changes() {
        GateGuards x = new GateGuards();
        Check.Call[] calls = {() -> x.guard(64), () -> x.visitor(1, false), () -> x.rate(0, 1), () -> x.caution(0, 1),
            () -> x.teach(0, 0), () -> x.day(0), () -> x.days(0, 30), () -> x.forget(0)};
        String[] before = new String[calls.length];
        for (int i = 0; i < calls.length; i++) {
            before[i] = Check.gateOf(x);
            calls[i].answer();
            CHECK.due("changes: so many", x.account(8), i + 1);
        }
        for (int i = calls.length - 1; i >= 0; i--) {
            CHECK.due("changes: left", x.undo(), i);
            CHECK.due("changes: undone", Check.gateOf(x), before[i]);
        }
        Check.put(x, "g1;+a;-b;t0:0;d0;x1");
        x.run();
        CHECK.due("changes: a run is one", x.account(8), 1);
        CHECK.due("changes: it is undone", x.undo(), 0);
        CHECK.due("changes: at once", Check.gateOf(x), "");
        GateGuards y = guards(1);
        meet(y, -1);
        CHECK.due("changes: a lesson without a push", y.teach(0, 0), 0);
        CHECK.due("changes: is one", y.account(8), 3);
        CHECK.due("changes: a calm day", y.day(0), 0);
        CHECK.due("changes: is one, too", y.account(8), 4);
    }

    /** The same sentence: no other call is a change, nor one that throws. */
    private static void noChanges() {
        GateGuards x = guards(64, 64);
        meet(x, 1, -3);
        x.day(0);
        Check.Call[] calls = {() -> x.visitorOf(0, 0), () -> x.guardOf(0, 0), () -> x.margin(0, 1, true),
            () -> x.margin(0, 1, false), () -> x.letsIn(0, 1), () -> x.weightBits(0, 0), () -> x.counted(0, 0),
            () -> x.mean(0, 0), () -> x.strongest(0, 0), () -> x.closest(0), () -> x.knows(0, 0),
            () -> x.wouldCalm(0, 30), () -> x.wouldPush(0, 0), () -> x.votes(1), () -> x.isVotedIn(1),
            () -> x.agree(0, 1), () -> x.mistaken(), () -> x.ranked(0), () -> x.line(0), () -> x.guardLine(0),
            () -> x.character(0), () -> x.append('?'), () -> x.errorPosition(), () -> x.account(0), () -> x.isWell(),
            () -> x.meanBadges(), () -> x.save()};
        String gate = Check.gateOf(x);
        for (int i = 0; i < calls.length; i++) {
            calls[i].answer();
            CHECK.due("no changes: behind call " + i, x.account(8), 5);
            CHECK.due("no changes: the gate behind call " + i, Check.gateOf(x), gate);
        }
        CHECK.due("no changes: a run with an error", Check.outcomeOf(() -> x.run()), "IllegalArgumentException");
        Check.put(x, "+a");
        CHECK.due("no changes: a run that is refused", Check.outcomeOf(() -> x.run()), "UnsupportedOperationException");
        Check.put(x, "x9");
        CHECK.due("no changes: a run that cannot be", Check.outcomeOf(() -> x.run()), "IllegalArgumentException");
        CHECK.due("no changes: behind them", x.account(8), 5);
        CHECK.due("no changes: the gate behind them", Check.gateOf(x), gate);
        CHECK.due("no changes: the latest change is the day", x.undo(), 4);
        CHECK.due("no changes: which is undone", x.guardOf(0, 2), 0);
    }

    /** "The latest 8 can be undone" */
    private static void latestEight() {
        for (int many = 0; many <= 20; many++) {
            GateGuards x = guards();
            for (int i = 0; i < many; i++) {
                // visitors 0 to 9 come, and go again
                int done = i < 10 ? x.visitor(i + 1, true) : x.forget(0);
                CHECK.due("eight: change " + i, done, i < 10 ? i : 19 - i);
            }
            int kept = Math.min(many, 8);
            CHECK.due("eight: kept of " + many, x.account(8), kept);
            for (int left = kept - 1; left >= 0; left--) {
                CHECK.due("eight: left of " + many, x.undo(), left);
                CHECK.due("eight: told as left of " + many, x.account(8), left);
                int there = many - kept + left;
                CHECK.due("eight: visitors then", x.account(1), there <= 10 ? there : 20 - there);
            }
            CHECK.thrown("eight: no more of " + many, x, STATE, () -> x.undo());
        }
    }

    /** The same sentence, when changes and undoing take turns for long. */
    private static void ringOfChanges() {
        for (int back = 0; back <= 9; back++) {
            GateGuards x = guards(1);
            int caution = 0;
            int kept = 1;
            for (int turn = 0; turn < 4; turn++) {
                for (int i = 0; i < 9; i++) {
                    x.caution(0, ++caution);
                    kept = Math.min(8, kept + 1);
                }
                for (int i = 0; i < Math.min(back, 8); i++) {
                    CHECK.due("ring: left", x.undo(), --kept);
                    CHECK.due("ring: the caution then", x.guardOf(0, 1), --caution);
                }
                CHECK.due("ring: kept", x.account(8), kept);
            }
        }
    }

    /** "restore forgets all." */
    private static void restoreForgetsAll() {
        for (int many = 0; many <= 10; many++) {
            GateGuards x = guards(1);
            x.save();
            for (int i = 1; i <= many; i++) {
                x.caution(0, i);
            }
            CHECK.due("restore: nobody is there", x.restore(), 0);
            CHECK.due("restore: the caution at the snapshot", x.guardOf(0, 1), 0);
            CHECK.due("restore: none is kept", x.account(8), 0);
            CHECK.thrown("restore: none can be undone", x, STATE, () -> x.undo());
            for (int i = 1; i <= 9; i++) {
                x.caution(0, 100 + i);
                CHECK.due("restore: kept behind it", x.account(8), Math.min(i, 8));
            }
            for (int left = 7; left >= 0; left--) {
                CHECK.due("restore: left", x.undo(), left);
                CHECK.due("restore: the caution then", x.guardOf(0, 1), 101 + left);
            }
            CHECK.thrown("restore: no more", x, STATE, () -> x.undo());
        }
    }

    /** "The input, the line, the error position and the reason are neither undone nor saved, and stay." */
    private static void whatStays() {
        GateGuards x = guards(7);
        meet(x, 1, -1023);
        x.save();
        stays(x, 0, "", -1, "none");
        Check.put(x, "+a!");
        Check.outcomeOf(() -> x.run());
        x.line(1);
        Check.outcomeOf(() -> x.rate(0, 7));
        Check.put(x, "+ab;q");
        stays(x, 5, "-abcdefghij", 2, "4 7");
        x.forget(0);
        x.undo();
        stays(x, 5, "-abcdefghij", 2, "4 7");
        x.forget(1);
        x.restore();
        stays(x, 5, "-abcdefghij", 2, "4 7");
        x.save();
        stays(x, 5, "-abcdefghij", 2, "4 7");
        Check.put(x, "0123456789012345678901234567890123456789012345678901234");
        x.guardLine(0);
        Check.outcomeOf(() -> x.visitor(1, true));
        x.restore();
        stays(x, 60, "0 0 0 0 0 0 0 0 0 0 0", 2, "2 0");
        CHECK.due("stays: and is run", Check.outcomeOf(() -> x.run()), "IllegalArgumentException");
        stays(x, 0, "0 0 0 0 0 0 0 0 0 0 0", 4, "2 0");
        x.restore();
        stays(x, 0, "0 0 0 0 0 0 0 0 0 0 0", 4, "2 0");
    }

    private static void stays(GateGuards x, int input, String line, int error, String reason) {
        CHECK.due("stays: the input", x.account(7), input);
        CHECK.due("stays: the line", Check.lineOf(x), line);
        CHECK.due("stays: the error position", x.errorPosition(), error);
        CHECK.due("stays: the reason", Check.reasonOf(x), reason);
    }

    /** "What is counted becomes more or less by the rate, not by 1. .. leaves the pushes of the latest day as they are." */
    private static void inDoubt() {
        GateGuards x = guards(64);
        meet(x, 1, -3);
        x.teach(0, 0);
        CHECK.due("in doubt: by the rate", x.counted(0, 0), 64);
        CHECK.due("in doubt: no day yet", x.guardOf(0, 5), 0);
        CHECK.due("in doubt: a push on the day", x.day(0), 1);
        x.teach(0, 0);
        x.teach(0, 0);
        CHECK.due("in doubt: lessons leave the latest day", x.guardOf(0, 5), 1);
        CHECK.due("in doubt: until one is calm", x.days(0, 30), x.guardOf(0, 2) - 1);
        CHECK.due("in doubt: the calm day is the latest", x.guardOf(0, 5), 0);
        int days = x.guardOf(0, 2);
        CHECK.due("in doubt: a calm day goes by, too", x.days(0, 30), 1);
        CHECK.due("in doubt: and counts", x.guardOf(0, 2), days + 1);
        x.caution(0, 256);
        CHECK.due("in doubt: the teaching of a day counts", x.guardOf(0, 6), 3 + 2 * (days + 1));
    }

    /** "No weight and no margin is ever -0.0f." */
    private static void noNegativeZero() {
        GateGuards x = guards(64);
        x.caution(0, 256);
        meet(x, -1, 2, 3);
        CHECK.due("no -0.0: a foe at 0", x.knows(0, 0), 0.0f);
        x.teach(0, 0);
        x.teach(0, 2);
        // bias 0, a 0, b 64
        CHECK.due("no -0.0: the bias down and up", x.weightBits(0, -1), 0);
        CHECK.due("no -0.0: a weight down and up", x.weightBits(0, 0), 0);
        CHECK.due("no -0.0: a margin", x.margin(0, 1, false), 0.0f);
        CHECK.due("no -0.0: a margin by pushes", x.margin(0, 1, true), 0.0f);
        CHECK.due("no -0.0: knowing a foe", x.knows(0, 0), 0.0f);
        x.teach(0, 1);
        x.teach(0, 0);
        // bias 0, a -64, b 128
        CHECK.due("no -0.0: the bias up and down", x.weightBits(0, -1), 0);
        meet(x, 4);
        CHECK.due("no -0.0: a margin of a badge not pushed", x.margin(0, 4, false), 0.0f);
        x.forget(3);
        x.forget(2);
        x.forget(1);
        x.caution(0, 0);
        x.day(0);
        x.teach(0, 0);
        CHECK.due("no -0.0: a mean", x.mean(0, 5), 0.0f);
    }
}
