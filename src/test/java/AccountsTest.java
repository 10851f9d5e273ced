/** Promises 34 to 39: account, isWell, meanBadges, undo, save and restore. */
public final class AccountsTest {
    private static final Check CHECK = new Check("AccountsTest");

    public static void main(String[] args) {
        account();
        isWell();
        meanBadges();
        undoOfEachChange();
        onlyEightAreKept();
        whatIsNoChange();
        undoThenChange();
        saveAndRestore();
        snapshotIsApart();
        CHECK.end();
    }

    private static void account() {
        GateGuards x = new GateGuards();
        x.visitor(1, true);
        x.visitor(3, false);
        x.visitor(4, true);
        x.guard(64);
        x.guard(32);
        accounts(x, 2, 3, 2, 1, 0, 0, 4, 0, 5);
        int gone = x.days(0, 30);
        int pushes = x.guardOf(0, 3);
        accounts(x, 2, 3, 2, 1, gone, pushes, 2, 0, 6);
        x.day(1);
        x.append('q');
        x.append('q');
        accounts(x, 2, 3, 2, 1, gone + 1, pushes + x.guardOf(1, 3), x.guardOf(1, 4), 2, 7);
        x.forget(1);
        x.forget(0);
        x.forget(0);
        accounts(x, 2, 0, 0, 0, gone + 1, pushes + x.guardOf(1, 3), 0, 2, 8);
        for (int none : new int[] {Integer.MIN_VALUE, -1, 9, Integer.MAX_VALUE}) {
            CHECK.thrown("34: account " + none, x, IllegalArgumentException.class, () -> x.account(none));
        }
    }

    private static void accounts(GateGuards x, int... due) {
        for (int what = 0; what < due.length; what++) {
            CHECK.due("34: account " + what, x.account(what), due[what]);
        }
    }

    private static void isWell() {
        GateGuards x = new GateGuards();
        CHECK.due("35: without guards", x.isWell(), true);
        for (int guard = 0; guard < 4; guard++) {
            x.guard(1 + guard * 21);
            x.caution(guard, 1 + guard * 70);
        }
        for (int visitor = 0; visitor < 12; visitor++) {
            x.visitor(visitor * 85 + 7, visitor % 3 == 0);
            CHECK.due("35: with more visitors", x.isWell(), true);
        }
        for (int i = 0; i < 20; i++) {
            x.days(i % 4, 1 + i);
            CHECK.due("35: with more days", x.isWell(), true);
        }
        x.undo();
        CHECK.due("35: behind undo", x.isWell(), true);
    }

    private static void meanBadges() {
        GateGuards x = new GateGuards();
        CHECK.thrown("36: no visitors", x, ArithmeticException.class, () -> x.meanBadges());
        x.visitor(1, true);
        CHECK.due("36: one badge", x.meanBadges(), 1.0);
        x.visitor(3, false);
        CHECK.due("36: three of two", x.meanBadges(), 1.5);
        x.visitor(6, false);
        CHECK.due("36: five of three", x.meanBadges(), 5.0 / 3.0);
        x.visitor(1023, true);
        CHECK.due("36: fifteen of four", x.meanBadges(), 3.75);
        x.forget(0);
        CHECK.due("36: fourteen of three", x.meanBadges(), 14.0 / 3.0);
        x.forget(0);
        x.forget(0);
        x.forget(0);
        CHECK.thrown("36: no visitors any more", x, ArithmeticException.class, () -> x.meanBadges());
    }

    private static void undoOfEachChange() {
        GateGuards x = new GateGuards();
        String[] states = new String[9];
        states[0] = Check.gateOf(x);
        x.guard(64);
        states[1] = Check.gateOf(x);
        x.visitor(1, true);
        states[2] = Check.gateOf(x);
        x.caution(0, 100);
        states[3] = Check.gateOf(x);
        x.teach(0, 0);
        states[4] = Check.gateOf(x);
        x.rate(0, 3);
        states[5] = Check.gateOf(x);
        x.day(0);
        states[6] = Check.gateOf(x);
        Check.put(x, "-ab;g5;t1:1;d1");
        x.run();
        states[7] = Check.gateOf(x);
        x.forget(0);
        states[8] = Check.gateOf(x);
        for (int left = 7; left >= 0; left--) {
            CHECK.due("37: still to undo", x.undo(), left);
            CHECK.due("37: what can be undone", x.account(8), left);
            CHECK.due("37: as before change " + left, Check.gateOf(x), states[left]);
        }
        CHECK.thrown("37: nothing is left", x, IllegalStateException.class, () -> x.undo());
        GateGuards y = new GateGuards();
        y.guard(64);
        y.visitor(1, true);
        String before = Check.gateOf(y);
        y.days(0, 5);
        y.undo();
        CHECK.due("37: days are undone", Check.gateOf(y), before);
    }

    private static void onlyEightAreKept() {
        GateGuards x = new GateGuards();
        for (int i = 0; i < 11; i++) {
            x.visitor(1 + i, true);
            CHECK.due("37: changes to undo", x.account(8), i < 8 ? i + 1 : 8);
        }
        for (int left = 7; left >= 0; left--) {
            CHECK.due("37: of the latest eight", x.undo(), left);
            CHECK.due("37: visitors then", x.account(1), 3 + left);
            CHECK.due("37: the last of them", x.visitorOf(2 + left, 0), 3 + left);
        }
        CHECK.thrown("37: the ninth is lost", x, IllegalStateException.class, () -> x.undo());
    }

    private static void whatIsNoChange() {
        GateGuards x = new GateGuards();
        x.guard(64);
        x.visitor(1, true);
        x.letsIn(0, 1);
        x.wouldCalm(0, 30);
        x.wouldPush(0, 0);
        x.line(0);
        x.guardLine(0);
        x.append('z');
        Check.outcomeOf(() -> x.run());
        Check.outcomeOf(() -> x.rate(0, 64));
        Check.outcomeOf(() -> x.forget(1));
        x.save();
        CHECK.due("37: only two changes", x.account(8), 2);
        x.undo();
        CHECK.due("37: the visitor is undone", x.account(1), 0);
        CHECK.due("37: the guard is not", x.account(0), 1);
    }

    private static void undoThenChange() {
        GateGuards x = new GateGuards();
        for (int i = 0; i < 10; i++) {
            x.visitor(1 + i, true);
        }
        x.undo();
        x.undo();
        x.undo();
        CHECK.due("37: five are left", x.account(8), 5);
        x.visitor(500, false);
        x.visitor(501, false);
        CHECK.due("37: seven then", x.account(8), 7);
        x.undo();
        CHECK.due("37: the second is undone", x.account(1) + " " + x.visitorOf(7, 0), "8 500");
        x.undo();
        CHECK.due("37: the first is undone", x.account(1) + " " + x.visitorOf(6, 0), "7 7");
        x.undo();
        CHECK.due("37: and one from before", x.account(1) + " " + x.account(8), "6 4");
    }

    private static void saveAndRestore() {
        GateGuards x = new GateGuards();
        CHECK.thrown("39: no snapshot", x, IllegalStateException.class, () -> x.restore());
        x.guard(64);
        x.visitor(1, true);
        x.visitor(3, false);
        x.days(0, 3);
        String before = Check.gateOf(x);
        CHECK.due("38: save", x.save(), 2);
        CHECK.due("38: changes can still be undone", x.account(8), 4);
        x.days(0, 30);
        x.forget(0);
        x.guard(9);
        x.caution(0, 77);
        CHECK.due("39: restore", x.restore(), 2);
        CHECK.due("39: all is as in the snapshot", Check.gateOf(x), before);
        CHECK.thrown("39: nothing can be undone", x, IllegalStateException.class, () -> x.undo());
        x.rate(0, 1);
        CHECK.due("39: a change behind it can", x.account(8), 1);
        CHECK.due("39: the snapshot stays", x.restore(), 2);
        CHECK.due("39: all is as in the snapshot again", Check.gateOf(x), before);
        x.forget(1);
        CHECK.due("38: in place of the earlier one", x.save(), 1);
        String later = Check.gateOf(x);
        x.undo();
        CHECK.due("37: undo goes behind the snapshot", Check.gateOf(x), before);
        CHECK.due("39: the later one", x.restore(), 1);
        CHECK.due("39: all is as in the later one", Check.gateOf(x), later);
        GateGuards y = new GateGuards();
        CHECK.due("38: an empty gate", y.save(), 0);
        y.guard(1);
        y.visitor(1, true);
        CHECK.due("39: is empty again", y.restore(), 0);
        CHECK.due("39: without guards", Check.gateOf(y), "");
    }

    /** What is done behind save or restore leaves the snapshot as it is. */
    private static void snapshotIsApart() {
        GateGuards x = new GateGuards();
        x.guard(64);
        x.visitor(1, true);
        x.save();
        String before = Check.gateOf(x);
        for (int i = 0; i < 3; i++) {
            x.teach(0, 0);
            x.caution(0, 256);
            x.day(0);
            x.visitor(2, false);
            x.restore();
            CHECK.due("39: restored for the time " + i, Check.gateOf(x), before);
        }
        GateGuards other = new GateGuards();
        CHECK.thrown("39: another object has none", other, IllegalStateException.class, () -> other.restore());
    }
}
