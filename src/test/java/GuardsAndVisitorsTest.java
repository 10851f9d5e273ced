/** Promises 1 to 8: a new object, guard, rate, caution, visitor, forget, visitorOf and guardOf. */
public final class GuardsAndVisitorsTest {
    private static final Check CHECK = new Check("GuardsAndVisitorsTest");
    private static final Class<?> INDEX = IndexOutOfBoundsException.class;
    private static final Class<?> ARGUMENT = IllegalArgumentException.class;
    private static final int[] FAR = {Integer.MIN_VALUE, -1000, 1000, Integer.MAX_VALUE};

    public static void main(String[] args) {
        newObject();
        guard();
        guardBehindRestore();
        rate();
        rateCounts();
        caution();
        visitor();
        visitorRefusals();
        forget();
        visitorOf();
        guardOf();
        CHECK.end();
    }

    private static void newObject() {
        GateGuards x = new GateGuards();
        for (int what = 0; what <= 8; what++) {
            CHECK.due("1: account " + what + " at first", x.account(what), 0);
        }
        CHECK.due("1: errorPosition at first", x.errorPosition(), -1);
        CHECK.due("1: the line at first", Check.lineOf(x), "");
        CHECK.due("1: no reason at first", Check.reasonOf(x), "none");
        CHECK.due("1: isWell at first", x.isWell(), true);
        CHECK.thrown("1: no undo at first", x, IllegalStateException.class, () -> x.undo());
        CHECK.thrown("1: no snapshot at first", x, IllegalStateException.class, () -> x.restore());
    }

    private static void guard() {
        GateGuards x = new GateGuards();
        CHECK.thrown("2: guard 0", x, ARGUMENT, () -> x.guard(0));
        CHECK.thrown("2: guard 65", x, ARGUMENT, () -> x.guard(65));
        for (int far : FAR) {
            CHECK.thrown("2: guard " + far, x, ARGUMENT, () -> x.guard(far));
        }
        CHECK.due("2: guard 1", x.guard(1), 0);
        CHECK.due("2: guard 64", x.guard(64), 1);
        CHECK.due("2: guard 32", x.guard(32), 2);
        CHECK.due("2: guard 32 again", x.guard(32), 3);
        CHECK.due("2: the rate of guard 0", x.guardOf(0, 0), 1);
        CHECK.due("2: the rate of guard 1", x.guardOf(1, 0), 64);
        CHECK.due("2: the caution at first", x.guardOf(1, 1), 0);
        CHECK.refused("2: a fifth guard", x, 1, 4, () -> x.guard(5));
        CHECK.thrown("2: a fifth guard of no rate", x, ARGUMENT, () -> x.guard(0));
        CHECK.due("2: four guards", x.account(0), 4);
        CHECK.due("2: four changes", x.account(8), 4);
    }

    /** A guard told where one stood who is gone has nothing of that one. */
    private static void guardBehindRestore() {
        GateGuards x = new GateGuards();
        x.visitor(1, true);
        x.visitor(1023, false);
        x.guard(7);
        String fresh = Check.gateOf(x);
        x.undo();
        x.save();
        x.guard(64);
        x.caution(0, 200);
        x.days(0, 3);
        x.restore();
        CHECK.due("2: a guard again", x.guard(7), 0);
        CHECK.due("2: is a new one", Check.gateOf(x), fresh);
        x.visitor(2, true);
        x.day(0);
        for (int badge = 0; badge < 10; badge++) {
            CHECK.due("2: its means are of its own days", x.mean(0, badge), x.counted(0, badge) / 64.0f);
        }
    }

    private static void rate() {
        GateGuards x = new GateGuards();
        CHECK.thrown("3: rate without guards", x, INDEX, () -> x.rate(0, 5));
        CHECK.thrown("3: guard before rate", x, INDEX, () -> x.rate(0, 0));
        x.guard(10);
        x.guard(20);
        CHECK.due("3: rate of guard 1", x.rate(1, 64), 20);
        CHECK.due("3: rate of guard 1 then", x.rate(1, 1), 64);
        CHECK.due("3: guard 0 as it was", x.guardOf(0, 0), 10);
        CHECK.due("3: guard 1 as set", x.guardOf(1, 0), 1);
        CHECK.thrown("3: rate 0", x, ARGUMENT, () -> x.rate(1, 0));
        CHECK.thrown("3: rate 65", x, ARGUMENT, () -> x.rate(1, 65));
        CHECK.thrown("3: guard -1", x, INDEX, () -> x.rate(-1, 3));
        CHECK.thrown("3: guard 2", x, INDEX, () -> x.rate(2, 3));
        for (int far : FAR) {
            CHECK.thrown("3: guard " + far, x, INDEX, () -> x.rate(far, 3));
            CHECK.thrown("3: rate " + far, x, ARGUMENT, () -> x.rate(0, far));
        }
        CHECK.refused("3: the same rate", x, 4, 10, () -> x.rate(0, 10));
        CHECK.due("3: four changes", x.account(8), 4);
    }

    private static void rateCounts() {
        GateGuards x = new GateGuards();
        x.guard(10);
        x.visitor(1, true);
        x.teach(0, 0);
        x.rate(0, 64);
        CHECK.due("3: what is learnt stays", x.counted(0, 0), 10);
        x.caution(0, 256);
        x.teach(0, 0);
        CHECK.due("3: the next push is by the new rate", x.counted(0, 0), 74);
        CHECK.due("3: and so is the weight", x.weightBits(0, 0), Float.floatToIntBits(74.0f / 64.0f));
    }

    private static void caution() {
        GateGuards x = new GateGuards();
        CHECK.thrown("4: guard before caution", x, INDEX, () -> x.caution(0, 257));
        x.guard(10);
        x.guard(10);
        CHECK.due("4: caution of guard 1", x.caution(1, 256), 0);
        CHECK.due("4: caution of guard 1 then", x.caution(1, 1), 256);
        CHECK.due("4: guard 0 as it was", x.guardOf(0, 1), 0);
        CHECK.due("4: guard 1 as set", x.guardOf(1, 1), 1);
        CHECK.thrown("4: caution -1", x, ARGUMENT, () -> x.caution(1, -1));
        CHECK.thrown("4: caution 257", x, ARGUMENT, () -> x.caution(1, 257));
        CHECK.thrown("4: guard -1", x, INDEX, () -> x.caution(-1, 3));
        CHECK.thrown("4: guard 2", x, INDEX, () -> x.caution(2, 3));
        for (int far : FAR) {
            CHECK.thrown("4: guard " + far, x, INDEX, () -> x.caution(far, 3));
            CHECK.thrown("4: caution " + far, x, ARGUMENT, () -> x.caution(0, far));
        }
        CHECK.refused("4: the same caution", x, 4, 1, () -> x.caution(1, 1));
        CHECK.refused("4: the caution at first", x, 4, 0, () -> x.caution(0, 0));
        CHECK.due("4: back to 0", x.caution(1, 0), 1);
        CHECK.due("4: five changes", x.account(8), 5);
    }

    private static void visitor() {
        GateGuards x = new GateGuards();
        CHECK.thrown("5: no badges", x, ARGUMENT, () -> x.visitor(0, true));
        CHECK.thrown("5: badges 1024", x, ARGUMENT, () -> x.visitor(1024, true));
        CHECK.thrown("5: badges -1", x, ARGUMENT, () -> x.visitor(-1, false));
        for (int far : FAR) {
            if (far != 1000) {
                CHECK.thrown("5: badges " + far, x, ARGUMENT, () -> x.visitor(far, true));
            }
        }
        CHECK.due("5: badges 1", x.visitor(1, true), 0);
        CHECK.due("5: badges 1023", x.visitor(1023, false), 1);
        CHECK.due("5: badges 512", x.visitor(512, false), 2);
        CHECK.refused("5: badges 1023 again", x, 2, 1, () -> x.visitor(1023, false));
        CHECK.refused("5: badges 512 as a friend", x, 2, 2, () -> x.visitor(512, true));
        CHECK.due("5: three visitors", x.account(1), 3);
        CHECK.due("5: three changes", x.account(8), 3);
    }

    private static void visitorRefusals() {
        GateGuards x = new GateGuards();
        for (int i = 0; i < 12; i++) {
            CHECK.due("5: visitor " + i, x.visitor(100 + i, i % 2 == 0), i);
        }
        CHECK.refused("5: a thirteenth", x, 1, 12, () -> x.visitor(1, true));
        CHECK.refused("5: a known one before the thirteenth", x, 2, 11, () -> x.visitor(111, true));
        CHECK.thrown("5: no set before a thirteenth", x, ARGUMENT, () -> x.visitor(0, true));
        x.forget(3);
        CHECK.due("5: there is room again", x.visitor(1, true), 11);
    }

    private static void forget() {
        GateGuards x = new GateGuards();
        CHECK.thrown("6: nobody to forget", x, INDEX, () -> x.forget(0));
        x.visitor(1, true);
        x.visitor(2, false);
        x.visitor(4, true);
        x.visitor(8, false);
        CHECK.thrown("6: visitor 4", x, INDEX, () -> x.forget(4));
        CHECK.thrown("6: visitor -1", x, INDEX, () -> x.forget(-1));
        for (int far : FAR) {
            CHECK.thrown("6: visitor " + far, x, INDEX, () -> x.forget(far));
        }
        CHECK.due("6: forget 1", x.forget(1), 3);
        CHECK.due("6: those behind move up", Check.gateOf(x), "; visitor 1 1; visitor 4 1; visitor 8 0");
        CHECK.due("6: forget the last", x.forget(2), 2);
        CHECK.due("6: forget the first", x.forget(0), 1);
        CHECK.due("6: who is left", Check.gateOf(x), "; visitor 4 1");
        CHECK.due("6: forget the only one", x.forget(0), 0);
        CHECK.thrown("6: nobody is left", x, INDEX, () -> x.forget(0));
        CHECK.due("6: the set is free again", x.visitor(4, false), 0);
    }

    private static void visitorOf() {
        GateGuards x = new GateGuards();
        CHECK.thrown("7: visitor before what", x, INDEX, () -> x.visitorOf(0, 9));
        x.visitor(7, true);
        x.visitor(1, false);
        x.visitor(1023, true);
        x.visitor(520, false);
        int[][] due = {{7, 1, 3, 0, 0}, {1, 0, 1, 0, 0}, {1023, 1, 10, 0, 1}, {520, 0, 2, 0, 1}};
        for (int visitor = 0; visitor < 4; visitor++) {
            for (int what = 0; what <= 4; what++) {
                CHECK.due("7: visitorOf " + visitor + ", " + what, x.visitorOf(visitor, what), due[visitor][what]);
            }
        }
        x.guard(64);
        x.guard(32);
        CHECK.due("7: both mistaken about a friend", x.visitorOf(0, 3), 2);
        CHECK.due("7: none mistaken about a foe", x.visitorOf(1, 3), 0);
        x.teach(1, 0);
        CHECK.due("7: one has learnt the friend", x.visitorOf(0, 3), 1);
        CHECK.due("7: and lets the foe in, too", x.visitorOf(1, 3), 1);
        x.forget(0);
        CHECK.due("7: the place among the friends then", x.visitorOf(1, 4), 0);
        CHECK.due("7: the place among the foes then", x.visitorOf(2, 4), 1);
        CHECK.thrown("7: what -1", x, ARGUMENT, () -> x.visitorOf(0, -1));
        CHECK.thrown("7: what 5", x, ARGUMENT, () -> x.visitorOf(0, 5));
        CHECK.thrown("7: visitor 3", x, INDEX, () -> x.visitorOf(3, 0));
        CHECK.thrown("7: visitor -1", x, INDEX, () -> x.visitorOf(-1, 0));
        for (int far : FAR) {
            CHECK.thrown("7: visitor " + far, x, INDEX, () -> x.visitorOf(far, 0));
            CHECK.thrown("7: what " + far, x, ARGUMENT, () -> x.visitorOf(0, far));
        }
    }

    private static void guardOf() {
        GateGuards x = new GateGuards();
        CHECK.thrown("8: guard before what", x, INDEX, () -> x.guardOf(0, 9));
        x.guard(16);
        x.guard(48);
        x.visitor(1, true);
        x.visitor(3, false);
        x.visitor(2, true);
        numbersOf(x, 1, 48, 0, 0, 0, 2, 0, 0);
        x.teach(1, 0);
        numbersOf(x, 1, 48, 0, 0, 1, 1, 0, 1);
        x.teach(1, 0);
        numbersOf(x, 1, 48, 0, 0, 1, 1, 0, 2);
        // the weights then: bias 48, a 48; foe ab has 96: pushed, bias 0, a 0, b -48; friend b has -48: pushed
        x.day(1);
        numbersOf(x, 1, 48, 0, 1, 3, 1, 2, 5);
        x.teach(1, 1);
        numbersOf(x, 1, 48, 0, 1, 4, 2, 2, 6);
        x.caution(1, 7);
        numbersOf(x, 1, 48, 7, 1, 4, 2, 2, 6);
        numbersOf(x, 0, 16, 0, 0, 0, 2, 0, 0);
        CHECK.thrown("8: what -1", x, ARGUMENT, () -> x.guardOf(0, -1));
        CHECK.thrown("8: what 7", x, ARGUMENT, () -> x.guardOf(0, 7));
        CHECK.thrown("8: guard 2", x, INDEX, () -> x.guardOf(2, 0));
        CHECK.thrown("8: guard -1", x, INDEX, () -> x.guardOf(-1, 0));
        for (int far : FAR) {
            CHECK.thrown("8: guard " + far, x, INDEX, () -> x.guardOf(far, 0));
            CHECK.thrown("8: what " + far, x, ARGUMENT, () -> x.guardOf(0, far));
        }
    }

    private static void numbersOf(GateGuards x, int guard, int... due) {
        for (int what = 0; what < due.length; what++) {
            CHECK.due("8: guardOf " + guard + ", " + what, x.guardOf(guard, what), due[what]);
        }
    }
}
