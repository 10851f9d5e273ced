import java.util.NoSuchElementException;

/** Promises 9 to 16: margin, letsIn, weightBits, counted, mean, strongest, closest and knows. */
public final class MarginsTest {
    private static final Check CHECK = new Check("MarginsTest");
    private static final Class<?> INDEX = IndexOutOfBoundsException.class;
    private static final Class<?> ARGUMENT = IllegalArgumentException.class;
    private static final int[] NO_GUARDS = {Integer.MIN_VALUE, -1, 2, 4, Integer.MAX_VALUE};
    private static final int[] NO_SETS = {Integer.MIN_VALUE, -1, 0, 1024, Integer.MAX_VALUE};

    public static void main(String[] args) {
        margin();
        letsIn();
        weightsAndCounts();
        bitsOfManyWeights();
        mean();
        strongest();
        closest();
        knows();
        CHECK.end();
    }

    /** Guard 1 has, in 64ths: bias 5, a -5, b 0, c 5, j 5; and guard 0 nothing. */
    private static GateGuards taught() {
        GateGuards x = new GateGuards();
        x.guard(7);
        x.guard(5);
        x.visitor(512 + 4 + 2, true);
        x.visitor(3, false);
        x.visitor(512 + 4, true);
        x.teach(1, 0);
        x.teach(1, 1);
        x.visitor(8, true);
        x.teach(1, 3);
        x.forget(3);
        return x;
    }

    private static void margin() {
        GateGuards x = taught();
        // bias 5, a -5, b 0, c 5, d 5, j 5
        int[][] due = {{1, 0}, {2, 5}, {4, 10}, {8, 10}, {16, 5}, {512, 10}, {516, 15}, {1023, 15}, {17, 0}};
        for (int[] pair : due) {
            float want = pair[1] / 64.0f;
            CHECK.due("9: margin of " + pair[0], x.margin(1, pair[0], false), want);
            CHECK.due("9: margin of " + pair[0] + " again", x.margin(1, pair[0], true), want);
            CHECK.due("9: margin of " + pair[0] + " for the other", x.margin(0, pair[0], false), 0.0f);
            CHECK.due("9: margin of " + pair[0] + " for the other again", x.margin(0, pair[0], true), 0.0f);
        }
        x.visitor(1, false);
        x.visitor(16, false);
        x.teach(1, 4);
        x.teach(1, 3);
        x.rate(1, 64);
        x.caution(1, 6);
        x.teach(1, 3);
        CHECK.due("9: a margin below 0", x.margin(1, 1, false), -133.0f / 64.0f);
        CHECK.due("9: a margin below 0 again", x.margin(1, 1, true), -133.0f / 64.0f);
        for (int none : NO_GUARDS) {
            CHECK.thrown("9: guard " + none, x, INDEX, () -> x.margin(none, 0, false));
        }
        for (int none : NO_SETS) {
            CHECK.thrown("9: set " + none, x, ARGUMENT, () -> x.margin(1, none, false));
            CHECK.thrown("9: set " + none + " again", x, ARGUMENT, () -> x.margin(1, none, true));
        }
    }

    private static void letsIn() {
        GateGuards x = taught();
        CHECK.due("10: a margin of 0 is kept out", x.letsIn(1, 1), false);
        CHECK.due("10: a margin above 0 is let in", x.letsIn(1, 2), true);
        CHECK.due("10: the other guard keeps out", x.letsIn(0, 2), false);
        x.visitor(2, false);
        x.teach(1, 3);
        x.teach(1, 3);
        CHECK.due("10: a margin below 0 is kept out", x.letsIn(1, 2), false);
        CHECK.due("10: all badges are let in", x.letsIn(1, 1023), true);
        for (int none : NO_GUARDS) {
            CHECK.thrown("10: guard " + none, x, INDEX, () -> x.letsIn(none, 0));
        }
        for (int none : NO_SETS) {
            CHECK.thrown("10: set " + none, x, ARGUMENT, () -> x.letsIn(1, none));
        }
    }

    private static void weightsAndCounts() {
        GateGuards x = taught();
        int[] due = {5, -5, 0, 5, 5, 0, 0, 0, 0, 0, 5};
        for (int badge = -1; badge < 10; badge++) {
            CHECK.due("12: counted " + badge, x.counted(1, badge), due[badge + 1]);
            int bits = Float.floatToIntBits(due[badge + 1] / 64.0f);
            CHECK.due("11: weightBits " + badge, x.weightBits(1, badge), bits);
            CHECK.due("12: counted for the other " + badge, x.counted(0, badge), 0);
            CHECK.due("11: weightBits for the other " + badge, x.weightBits(0, badge), 0);
        }
        for (int none : NO_GUARDS) {
            CHECK.thrown("11: guard " + none, x, INDEX, () -> x.weightBits(none, 10));
            CHECK.thrown("12: guard " + none, x, INDEX, () -> x.counted(none, 10));
        }
        for (int none : new int[] {Integer.MIN_VALUE, -2, 10, Integer.MAX_VALUE}) {
            CHECK.thrown("11: badge " + none, x, ARGUMENT, () -> x.weightBits(1, none));
            CHECK.thrown("12: badge " + none, x, ARGUMENT, () -> x.counted(1, none));
        }
    }

    /** Weights of many sizes and of both signs, each against the library's bits. */
    private static void bitsOfManyWeights() {
        GateGuards x = new GateGuards();
        x.guard(1);
        x.caution(0, 256);
        x.visitor(1, true);
        x.visitor(6, false);
        int count = 0;
        for (int i = 0; i < 120; i++) {
            int rate = 1 + i * 7 % 64;
            if (x.guardOf(0, 0) != rate) {
                x.rate(0, rate);
            }
            count += x.teach(0, i % 2);
            for (int badge = -1; badge < 3; badge++) {
                int bits = Float.floatToIntBits(x.counted(0, badge) / 64.0f);
                CHECK.due("11: bits of " + x.counted(0, badge) + " 64ths", x.weightBits(0, badge), bits);
            }
        }
        CHECK.due("11: pushes were made", count > 6, true);
        CHECK.due("11: a weight below 0 was met", x.counted(0, 1) < -64, true);
        CHECK.due("11: a weight above 1 was met", x.counted(0, 0) > 64, true);
    }

    private static void mean() {
        GateGuards x = new GateGuards();
        CHECK.thrown("13: guard before badge", x, INDEX, () -> x.mean(0, 10));
        x.guard(64);
        x.guard(64);
        x.visitor(1, true);
        CHECK.thrown("13: no days", x, ArithmeticException.class, () -> x.mean(0, 0));
        CHECK.thrown("13: badge before days", x, ARGUMENT, () -> x.mean(0, -1));
        x.teach(0, 0);
        CHECK.thrown("13: a lesson is no day", x, ArithmeticException.class, () -> x.mean(0, 9));
        x.day(0);
        CHECK.due("13: after one day", x.mean(0, 0), 1.0f);
        CHECK.due("13: another badge", x.mean(0, 9), 0.0f);
        CHECK.thrown("13: the other guard had none", x, ArithmeticException.class, () -> x.mean(1, 0));
        x.caution(0, 200);
        x.day(0);
        CHECK.due("13: after two days", x.mean(0, 0), 1.5f);
        x.day(0);
        CHECK.due("13: after three days, one calm", x.mean(0, 0), 5.0f / 3.0f);
        x.visitor(513, false);
        x.day(0);
        CHECK.due("13: after a push down", x.mean(0, 0), 6.0f / 4.0f);
        CHECK.due("13: a mean below 0", x.mean(0, 9), -1.0f / 4.0f);
        for (int none : NO_GUARDS) {
            CHECK.thrown("13: guard " + none, x, INDEX, () -> x.mean(none, 0));
        }
        for (int none : new int[] {Integer.MIN_VALUE, -1, 10, Integer.MAX_VALUE}) {
            CHECK.thrown("13: badge " + none, x, ARGUMENT, () -> x.mean(0, none));
        }
    }

    private static void strongest() {
        GateGuards x = taught();
        // a -5, b 0, c 5, d 5, e to i 0, j 5
        int[] due = {2, 3, 9, 1, 4, 5, 6, 7, 8, 0};
        for (int place = 0; place < 10; place++) {
            CHECK.due("14: place " + place, x.strongest(1, place), due[place]);
            CHECK.due("14: place " + place + " of equals", x.strongest(0, place), place);
        }
        for (int none : new int[] {Integer.MIN_VALUE, -1, 10, Integer.MAX_VALUE}) {
            CHECK.thrown("14: place " + none, x, NoSuchElementException.class, () -> x.strongest(1, none));
        }
        for (int none : NO_GUARDS) {
            CHECK.thrown("14: guard " + none, x, INDEX, () -> x.strongest(none, 10));
        }
    }

    private static void closest() {
        GateGuards x = taught();
        // friend bcj 15, foe ab 0, friend cj 15
        CHECK.due("15: the foe is known least well", x.closest(1), 1);
        CHECK.due("15: of equals the lowest", x.closest(0), 0);
        x.visitor(1, true);
        CHECK.due("15: an equal behind", x.closest(1), 1);
        x.visitor(516 + 16, false);
        CHECK.due("15: a foe with a margin of 15", x.closest(1), 4);
        for (int none : NO_GUARDS) {
            CHECK.thrown("15: guard " + none, x, INDEX, () -> x.closest(none));
        }
        GateGuards empty = new GateGuards();
        CHECK.thrown("15: guard before visitors", empty, INDEX, () -> empty.closest(0));
        empty.guard(1);
        CHECK.thrown("15: no visitors", empty, NoSuchElementException.class, () -> empty.closest(0));
    }

    private static void knows() {
        GateGuards x = taught();
        CHECK.due("16: a friend", x.knows(1, 0), 15.0f / 64.0f);
        CHECK.due("16: a foe with margin 0, not -0.0", x.knows(1, 1), 0.0f);
        CHECK.due("16: with another guard", x.knows(0, 0), 0.0f);
        x.visitor(16, false);
        CHECK.due("16: a foe with a margin above 0", x.knows(1, 3), -5.0f / 64.0f);
        x.rate(1, 64);
        x.teach(1, 3);
        CHECK.due("16: a foe with a margin below 0", x.knows(1, 3), 123.0f / 64.0f);
        CHECK.due("16: a friend with a margin below 0", x.knows(1, 0), -49.0f / 64.0f);
        for (int none : NO_GUARDS) {
            CHECK.thrown("16: guard " + none, x, INDEX, () -> x.knows(none, 0));
        }
        for (int none : new int[] {Integer.MIN_VALUE, -1, 4, 12, Integer.MAX_VALUE}) {
            CHECK.thrown("16: visitor " + none, x, INDEX, () -> x.knows(0, none));
        }
    }
}
