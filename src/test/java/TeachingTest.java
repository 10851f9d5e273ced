import java.util.NoSuchElementException;

/** Promises 17 to 21: teach, day, days, wouldCalm and wouldPush; reason 5 is left to TooManyPushesTest. */
public final class TeachingTest {
    private static final Check CHECK = new Check("TeachingTest");
    private static final Class<?> INDEX = IndexOutOfBoundsException.class;
    private static final int[] NO_GUARDS = {Integer.MIN_VALUE, -1, 1, 4, Integer.MAX_VALUE};
    private static final int[] NO_VISITORS = {Integer.MIN_VALUE, -1, 2, 12, Integer.MAX_VALUE};
    private static final int[] NO_DAYS = {Integer.MIN_VALUE, -1, 0, 31, Integer.MAX_VALUE};

    public static void main(String[] args) {
        teachMistaken();
        teachCautious();
        teachWrongly();
        day();
        dayWithWeightsThatAreSoThen();
        days();
        daysThatAreNeverCalm();
        wouldCalm();
        wouldPush();
        CHECK.end();
    }

    /** One guard of rate 64, a friend with a, and a foe with a and b. */
    private static GateGuards friendAndFoe() {
        GateGuards x = new GateGuards();
        x.guard(64);
        x.visitor(1, true);
        x.visitor(3, false);
        return x;
    }

    private static String weights(GateGuards x, int guard) {
        StringBuilder all = new StringBuilder();
        for (int badge = -1; badge < 3; badge++) {
            all.append(x.counted(guard, badge)).append(' ');
        }
        return all.toString();
    }

    private static void teachMistaken() {
        GateGuards x = friendAndFoe();
        CHECK.due("17: a foe with margin 0", x.teach(0, 1), 0);
        CHECK.due("17: is not pushed", weights(x, 0), "0 0 0 0 ");
        CHECK.due("17: a friend with margin 0", x.teach(0, 0), 1);
        CHECK.due("17: is pushed", weights(x, 0), "64 64 0 0 ");
        CHECK.due("17: a friend let in", x.teach(0, 0), 0);
        CHECK.due("17: is not pushed again", weights(x, 0), "64 64 0 0 ");
        CHECK.due("17: a foe let in", x.teach(0, 1), 1);
        CHECK.due("17: is pushed down", weights(x, 0), "0 0 -64 0 ");
        CHECK.due("17: weights, too", x.weightBits(0, 1), Float.floatToIntBits(-1.0f));
        CHECK.due("17: 0.0f behind pushes up and down", x.weightBits(0, 0), 0);
        CHECK.due("17: a foe kept out", x.teach(0, 1), 0);
        CHECK.due("17: five lessons", x.guardOf(0, 6), 5);
        CHECK.due("17: two pushes", x.guardOf(0, 3), 2);
        CHECK.due("17: no days", x.guardOf(0, 2), 0);
        CHECK.due("17: each lesson is a change", x.account(8), 8);
        CHECK.due("17: a lesson without a push is undone", x.undo(), 7);
        CHECK.due("17: and is not counted then", x.guardOf(0, 6), 4);
    }

    private static void teachCautious() {
        GateGuards x = friendAndFoe();
        x.teach(0, 0);
        x.caution(0, 128);
        CHECK.due("17: a friend's margin as large as the caution", x.teach(0, 0), 0);
        x.caution(0, 129);
        CHECK.due("17: a friend's margin below the caution", x.teach(0, 0), 1);
        CHECK.due("17: is pushed", weights(x, 0), "128 128 0 0 ");
        GateGuards y = new GateGuards();
        y.guard(32);
        y.visitor(6, false);
        y.caution(0, 1);
        CHECK.due("17: a foe's margin of 0 below the caution", y.teach(0, 0), 1);
        CHECK.due("17: is pushed down", weights(y, 0), "-32 0 -32 -32 ");
        y.caution(0, 96);
        CHECK.due("17: a foe's margin as large as the caution", y.teach(0, 0), 0);
        y.caution(0, 97);
        CHECK.due("17: a foe's margin below the caution", y.teach(0, 0), 1);
        CHECK.due("17: is pushed down again", weights(y, 0), "-64 0 -64 -64 ");
    }

    private static void teachWrongly() {
        GateGuards x = friendAndFoe();
        for (int none : NO_GUARDS) {
            CHECK.thrown("17: guard " + none, x, INDEX, () -> x.teach(none, 0));
        }
        for (int none : NO_VISITORS) {
            CHECK.thrown("17: visitor " + none, x, INDEX, () -> x.teach(0, none));
        }
        GateGuards empty = new GateGuards();
        empty.guard(1);
        CHECK.thrown("17: no visitors", empty, INDEX, () -> empty.teach(0, 0));
    }

    private static void day() {
        GateGuards x = new GateGuards();
        CHECK.thrown("18: guard before visitors", x, INDEX, () -> x.day(0));
        x.guard(64);
        x.guard(1);
        x.guard(1);
        CHECK.refused("18: no visitors", x, 3, 3, () -> x.day(2));
        x.visitor(1, true);
        x.visitor(3, false);
        int[] pushes = {2, 2, 1, 0, 0};
        String[] weights = {"0 0 -64 0 ", "0 0 -128 0 ", "64 64 -128 0 ", "64 64 -128 0 ", "64 64 -128 0 "};
        for (int i = 0; i < pushes.length; i++) {
            CHECK.due("18: pushes of day " + i, x.day(0), pushes[i]);
            CHECK.due("18: weights behind day " + i, weights(x, 0), weights[i]);
            CHECK.due("18: the latest day is day " + i, x.guardOf(0, 5), pushes[i]);
            CHECK.due("18: days then", x.guardOf(0, 2), i + 1);
            CHECK.due("18: lessons then", x.guardOf(0, 6), 2 * i + 2);
        }
        CHECK.due("18: all pushes", x.guardOf(0, 3), 5);
        CHECK.due("18: the mean of a", x.mean(0, 0), 3.0f / 5.0f);
        CHECK.due("18: the mean of b", x.mean(0, 1), -9.0f / 5.0f);
        CHECK.due("18: others have no days", x.guardOf(1, 2) + x.guardOf(2, 2), 0);
        for (int none : new int[] {Integer.MIN_VALUE, -1, 3, Integer.MAX_VALUE}) {
            CHECK.thrown("18: guard " + none, x, INDEX, () -> x.day(none));
        }
        x.forget(0);
        x.forget(0);
        CHECK.refused("18: no visitors any more", x, 3, 3, () -> x.day(0));
    }

    /** Each visitor is met with the weights that the one before has left. */
    private static void dayWithWeightsThatAreSoThen() {
        GateGuards x = new GateGuards();
        x.guard(10);
        x.visitor(1, true);
        x.visitor(2, true);
        x.visitor(3, true);
        CHECK.due("18: only the first friend pushes", x.day(0), 1);
        CHECK.due("18: and none the day after", x.day(0), 0);
        CHECK.due("18: the weights of the first", weights(x, 0), "10 10 0 0 ");
    }

    private static void days() {
        GateGuards x = friendAndFoe();
        CHECK.due("19: until a day is calm", x.days(0, 30), 4);
        CHECK.due("19: the calm day counts", x.guardOf(0, 2), 4);
        CHECK.due("19: the latest day is calm", x.guardOf(0, 5), 0);
        CHECK.due("19: lessons", x.guardOf(0, 6), 8);
        CHECK.due("19: pushes", x.guardOf(0, 3), 5);
        CHECK.due("19: the mean of b", x.mean(0, 1), -7.0f / 4.0f);
        CHECK.due("19: one change", x.account(8), 4);
        CHECK.due("19: one more calm day", x.days(0, 1), 1);
        CHECK.due("19: and another", x.days(0, 30), 1);
        GateGuards y = friendAndFoe();
        CHECK.due("19: three at most", y.days(0, 3), 3);
        CHECK.due("19: the third had a push", y.guardOf(0, 5), 1);
        CHECK.due("19: undone at once", y.undo(), 3);
        CHECK.due("19: no days then", y.guardOf(0, 2), 0);
        CHECK.due("19: four at most", y.days(0, 4), 4);
        for (int none : NO_GUARDS) {
            CHECK.thrown("19: guard " + none, x, INDEX, () -> x.days(none, 0));
        }
        for (int none : NO_DAYS) {
            CHECK.thrown("19: days " + none, x, IllegalArgumentException.class, () -> x.days(0, none));
        }
        GateGuards empty = new GateGuards();
        empty.guard(1);
        CHECK.thrown("19: days before visitors", empty, IllegalArgumentException.class, () -> empty.days(0, 31));
        CHECK.refused("19: no visitors", empty, 3, 1, () -> empty.days(0, 30));
    }

    /** No weights let ab and cd in and keep ac and bd out. */
    private static void daysThatAreNeverCalm() {
        GateGuards x = new GateGuards();
        x.guard(64);
        x.visitor(3, true);
        x.visitor(12, true);
        x.visitor(5, false);
        x.visitor(10, false);
        CHECK.thrown("20: never calm", x, NoSuchElementException.class, () -> x.wouldCalm(0, 30));
        CHECK.due("19: 30 days", x.days(0, 30), 30);
        CHECK.due("19: the thirtieth had pushes", x.guardOf(0, 5) > 0, true);
        CHECK.due("19: 120 lessons", x.guardOf(0, 6), 120);
    }

    private static void wouldCalm() {
        GateGuards x = friendAndFoe();
        String before = Check.stateOf(x);
        CHECK.due("20: on the fourth day", x.wouldCalm(0, 30), 4);
        CHECK.due("20: the fourth is looked at", x.wouldCalm(0, 4), 4);
        CHECK.due("20: nothing has changed", Check.stateOf(x), before);
        CHECK.thrown("20: only three are looked at", x, NoSuchElementException.class, () -> x.wouldCalm(0, 3));
        x.day(0);
        CHECK.due("20: a day less from now on", x.wouldCalm(0, 30), 3);
        x.days(0, 30);
        CHECK.due("20: calm at once", x.wouldCalm(0, 1), 1);
        x.caution(0, 256);
        CHECK.thrown("20: caution keeps from calm", x, NoSuchElementException.class, () -> x.wouldCalm(0, 1));
        for (int none : NO_GUARDS) {
            CHECK.thrown("20: guard " + none, x, INDEX, () -> x.wouldCalm(none, 0));
        }
        for (int none : NO_DAYS) {
            CHECK.thrown("20: days " + none, x, IllegalArgumentException.class, () -> x.wouldCalm(0, none));
        }
        GateGuards empty = new GateGuards();
        empty.guard(1);
        CHECK.thrown("20: days before visitors", empty, IllegalArgumentException.class, () -> empty.wouldCalm(0, 0));
        CHECK.thrown("20: no visitors", empty, NoSuchElementException.class, () -> empty.wouldCalm(0, 9));
    }

    private static void wouldPush() {
        GateGuards x = friendAndFoe();
        String before = Check.stateOf(x);
        CHECK.due("21: a friend with margin 0", x.wouldPush(0, 0), true);
        CHECK.due("21: a foe with margin 0", x.wouldPush(0, 1), false);
        CHECK.due("21: nothing has changed", Check.stateOf(x), before);
        x.teach(0, 0);
        CHECK.due("21: a friend let in", x.wouldPush(0, 0), false);
        CHECK.due("21: a foe let in", x.wouldPush(0, 1), true);
        x.caution(0, 128);
        CHECK.due("21: a friend as sure as the caution", x.wouldPush(0, 0), false);
        x.caution(0, 129);
        CHECK.due("21: a friend less sure", x.wouldPush(0, 0), true);
        for (int none : NO_GUARDS) {
            CHECK.thrown("21: guard " + none, x, INDEX, () -> x.wouldPush(none, 0));
        }
        for (int none : NO_VISITORS) {
            CHECK.thrown("21: visitor " + none, x, INDEX, () -> x.wouldPush(0, none));
        }
    }
}
