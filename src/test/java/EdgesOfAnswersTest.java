import java.util.NoSuchElementException;

/** The least and the greatest answer of each promise that tells a number: nothing there yet, and all that can be. */
public final class EdgesOfAnswersTest {
    private static final Check CHECK = new Check("EdgesOfAnswersTest");

    public static void main(String[] args) {
        nothingYet();
        full();
        visitorOf();
        guardOf();
        places();
        thirtyDays();
        twelvePushes();
        votes();
        agree();
        mistaken();
        ranked();
        lines();
        accounts();
        meanBadges();
        undoAndSnapshot();
        CHECK.end();
    }

    private static void due(String what, Object got, Object want) {
        CHECK.due(what, got, want);
    }

    /** Four guards of these rates, and twelve visitors, all friends or all foes. */
    private static GateGuards twelve(int rate, boolean isFriend) {
        GateGuards x = new GateGuards();
        for (int guard = 0; guard < 4; guard++) {
            x.guard(rate);
        }
        for (int visitor = 0; visitor < 12; visitor++) {
            x.visitor(visitor == 11 ? 1023 : visitor + 1, isFriend);
        }
        return x;
    }

    /** Promise 1, and all that can be asked for without guards and visitors. */
    private static void nothingYet() {
        GateGuards x = new GateGuards();
        for (int what = 0; what <= 8; what++) {
            due("34: account " + what, x.account(what), 0);
        }
        for (int badges = 1; badges <= 256; badges++) {
            due("22: votes " + badges, x.votes(badges), 0);
        }
        due("23: isVotedIn", x.isVotedIn(1023), false);
        due("25: mistaken", x.mistaken(), 0);
        due("32: errorPosition", x.errorPosition(), -1);
        due("35: isWell", x.isWell(), true);
        due("38: save", x.save(), 0);
        due("39: restore", x.restore(), 0);
        due("35: isWell still", x.isWell(), true);
        due("30: append", x.append('+'), 1);
    }

    /** The same gate with all guards, all visitors, all changes and all characters. */
    private static void full() {
        GateGuards x = twelve(1, true);
        for (int i = 1; i <= 60; i++) {
            due("30: append", x.append('+'), i);
        }
        due("34: guards", x.account(0), 4);
        due("34: visitors", x.account(1), 12);
        due("34: friends", x.account(2), 12);
        due("34: foes", x.account(3), 0);
        due("34: days", x.account(4), 0);
        due("34: pushes", x.account(5), 0);
        due("34: mistakes", x.account(6), 48);
        due("34: characters", x.account(7), 60);
        due("34: changes", x.account(8), 8);
        due("35: isWell", x.isWell(), true);
        for (int guard = 0; guard < 4; guard++) {
            x.days(guard, 30);
            due("35: isWell behind the days of guard " + guard, x.isWell(), true);
        }
        GateGuards y = twelve(1, false);
        due("34: no friends", y.account(2), 0);
        due("34: foes alone", y.account(3), 12);
        due("34: no mistakes", y.account(6), 0);
        due("34: changes of it", y.account(8), 8);
    }

    private static void visitorOf() {
        GateGuards x = twelve(64, true);
        due("7: the least set", x.visitorOf(0, 0), 1);
        due("7: the greatest set", x.visitorOf(11, 0), 1023);
        due("7: a friend", x.visitorOf(11, 1), 1);
        due("7: one badge", x.visitorOf(0, 2), 1);
        due("7: ten badges", x.visitorOf(11, 2), 10);
        due("7: four guards are mistaken", x.visitorOf(11, 3), 4);
        for (int guard = 0; guard < 4; guard++) {
            x.teach(guard, 0);
            due("7: one guard less is mistaken", x.visitorOf(11, 3), 3 - guard);
        }
        for (int visitor = 0; visitor < 12; visitor++) {
            due("7: the place among the friends", x.visitorOf(visitor, 4), visitor);
        }
        GateGuards y = twelve(64, false);
        due("7: a foe", y.visitorOf(0, 1), 0);
        due("7: none is mistaken", y.visitorOf(0, 3), 0);
        due("7: the last place among the foes", y.visitorOf(11, 4), 11);
        y.forget(5);
        y.visitor(512, true);
        due("7: the first place among the friends", y.visitorOf(11, 4), 0);
        due("7: the last place among the foes then", y.visitorOf(10, 4), 10);
    }

    private static void guardOf() {
        GateGuards x = twelve(64, true);
        for (int what = 0; what <= 6; what++) {
            due("8: number " + what, x.guardOf(3, what), what == 0 ? 64 : what == 4 ? 12 : 0);
        }
        x.day(3);
        due("8: one day", x.guardOf(3, 2), 1);
        due("8: one push", x.guardOf(3, 3), 1);
        due("8: none mistaken", x.guardOf(3, 4), 0);
        due("8: one push on the day", x.guardOf(3, 5), 1);
        due("8: twelve lessons", x.guardOf(3, 6), 12);
        x.day(3);
        due("8: no push on the latest day", x.guardOf(3, 5), 0);
        due("8: one push so far", x.guardOf(3, 3), 1);
        due("8: nothing of this for another", x.guardOf(2, 2) + x.guardOf(2, 3) + x.guardOf(2, 5) + x.guardOf(2, 6), 0);
    }

    /** Promises 14 and 15: the first and the last place, with weights and visitors in falling order. */
    private static void places() {
        GateGuards x = new GateGuards();
        x.guard(1);
        x.caution(0, 256);
        for (int badge = 0; badge <= 9; badge++) {
            x.rate(0, badge + 2);
            x.visitor(1 << badge, true);
            x.teach(0, badge);
        }
        for (int place = 0; place <= 9; place++) {
            due("14: place " + place, x.strongest(0, place), 9 - place);
        }
        due("15: the first visitor", x.closest(0), 0);
        x.visitor(512 + 256, false);
        due("15: the last of eleven", x.closest(0), 10);
        x.visitor(512 + 256 + 128, false);
        due("15: the last of twelve", x.closest(0), 11);
        x.forget(11);
        x.forget(10);
        while (x.account(1) > 1) {
            x.forget(0);
        }
        due("15: the only one", x.closest(0), 0);
    }

    /** Promises 19 and 20: calm on the thirtieth day, or the one behind it. */
    private static void thirtyDays() {
        GateGuards x = new GateGuards();
        x.guard(1);
        x.visitor(1, true);
        // each day adds 2 64ths to the margin: 58 of them are there behind the twenty-ninth
        x.caution(0, 58);
        due("20: on the thirtieth", x.wouldCalm(0, 30), 30);
        CHECK.thrown("20: not on the twenty-ninth", x, NoSuchElementException.class, () -> x.wouldCalm(0, 29));
        due("19: thirty", x.days(0, 30), 30);
        due("19: the thirtieth is calm", x.guardOf(0, 5), 0);
        due("19: twenty-nine pushes", x.guardOf(0, 3), 29);
        x.undo();
        due("19: twenty-nine", x.days(0, 29), 29);
        due("19: the twenty-ninth is not calm", x.guardOf(0, 5), 1);
        due("20: on the first from now on", x.wouldCalm(0, 1), 1);
        due("19: the first from now on", x.days(0, 30), 1);
        x.undo();
        x.undo();
        x.caution(0, 59);
        CHECK.thrown("20: not on the thirtieth", x, NoSuchElementException.class, () -> x.wouldCalm(0, 30));
        due("19: thirty without a calm one", x.days(0, 30), 30);
        due("19: the thirtieth is not calm", x.guardOf(0, 5), 1);
        due("19: thirty pushes", x.guardOf(0, 3), 30);
        due("20: the thirty-first is", x.wouldCalm(0, 30), 1);
    }

    /** Promises 17 to 19: none, and all visitors of a day push. */
    private static void twelvePushes() {
        GateGuards x = twelve(1, true);
        x.caution(0, 256);
        due("18: twelve", x.day(0), 12);
        due("8: on the latest day", x.guardOf(0, 5), 12);
        due("12: the bias", x.counted(0, -1), 12);
        due("34: pushes of all", x.account(5), 12);
        due("34: days of all", x.account(4), 1);
        due("18: another of one", x.day(3), 1);
        due("34: pushes of all then", x.account(5), 13);
        due("34: days of all then", x.account(4), 2);
        GateGuards y = twelve(64, false);
        due("18: none", y.day(0), 0);
        due("17: none, too", y.teach(0, 11), 0);
        due("19: one calm day", y.days(1, 30), 1);
        due("34: two days of all", y.account(4), 2);
        due("34: no pushes of all", y.account(5), 0);
        due("8: a lesson without a push counts", y.guardOf(0, 6), 13);
    }

    /** Promises 22 and 23: from none to all four. */
    private static void votes() {
        GateGuards x = twelve(1, true);
        for (int guard = 0; guard < 4; guard++) {
            due("22: so many", x.votes(1023), guard);
            due("23: are enough", x.isVotedIn(1023), guard == 3);
            x.teach(guard, 11);
        }
        due("22: all four", x.votes(1023), 4);
        due("23: are enough", x.isVotedIn(1023), true);
        due("22: also for a set without their badges, by the bias", x.votes(1), 4);
    }

    /** Promise 24: about none, and about all. */
    private static void agree() {
        GateGuards x = twelve(64, true);
        due("24: about all twelve", x.agree(0, 3), 12);
        x.teach(0, 0);
        due("24: about none", x.agree(0, 3), 0);
        due("24: nor the other way round", x.agree(3, 0), 0);
        due("24: with oneself about all", x.agree(0, 0) + x.agree(3, 3), 24);
        while (x.account(1) > 0) {
            x.forget(0);
        }
        due("24: about nobody", x.agree(0, 3) + x.agree(0, 0), 0);
    }

    /** Promise 25: about none, and about all. */
    private static void mistaken() {
        GateGuards x = twelve(64, true);
        due("25: about all friends", x.mistaken(), 12);
        x.teach(0, 0);
        x.teach(1, 0);
        due("25: two of four are a tie", x.mistaken(), 12);
        x.teach(2, 0);
        due("25: about none", x.mistaken(), 0);
        due("25: about no foes", twelve(64, false).mistaken(), 0);
        GateGuards y = new GateGuards();
        y.visitor(1, true);
        y.visitor(2, false);
        due("25: without guards about friends alone", y.mistaken(), 1);
    }

    /** Promise 26: by mistakes from the last guard to the first, then by pushes, then by number. */
    private static void ranked() {
        GateGuards x = new GateGuards();
        for (int guard = 0; guard < 4; guard++) {
            x.guard(64);
            due("26: the only, or the last of equals", x.ranked(guard), guard);
        }
        x.visitor(1, true);
        x.teach(3, 0);
        due("26: the last is first", "" + x.ranked(0) + x.ranked(1) + x.ranked(2) + x.ranked(3), "3012");
        x.teach(1, 0);
        due("26: of equals the lowest", "" + x.ranked(0) + x.ranked(1) + x.ranked(2) + x.ranked(3), "1302");
        x.caution(1, 256);
        x.teach(1, 0);
        due("26: fewer pushes first", "" + x.ranked(0) + x.ranked(1) + x.ranked(2) + x.ranked(3), "3102");
        x.forget(0);
        due("26: pushes alone", "" + x.ranked(0) + x.ranked(1) + x.ranked(2) + x.ranked(3), "0231");
        x.undo();
        due("26: mistakes ahead of pushes", "" + x.ranked(0) + x.ranked(1) + x.ranked(2) + x.ranked(3), "3102");
    }

    /** Promises 27 to 29: the shortest and the longest line, one behind the other. */
    private static void lines() {
        GateGuards x = twelve(1, false);
        due("27: the longest", x.line(11), 11);
        due("29: its last character", x.character(10), 'j');
        due("27: the shortest", x.line(0), 2);
        due("29: its last character", x.character(1), 'a');
        CHECK.thrown("29: none behind it", x, IndexOutOfBoundsException.class, () -> x.character(2));
        due("28: noughts", x.guardLine(3), 21);
        due("29: its first character", x.character(0), '0');
        due("29: its last character", x.character(20), '0');
        CHECK.thrown("29: none behind it", x, IndexOutOfBoundsException.class, () -> x.character(21));
        x.rate(3, 64);
        x.caution(3, 256);
        x.teach(3, 11);
        x.teach(3, 1);
        due("28: pushes down", x.guardLine(3), 45);
        due("28: as counted", Check.lineOf(x), "-128 -64 -128 -64 -64 -64 -64 -64 -64 -64 -64");
        due("27: in place of the longer line", x.line(11) + Check.lineOf(x), "11-abcdefghij");
    }

    /** Promise 34: each account one up and one down. */
    private static void accounts() {
        GateGuards x = new GateGuards();
        x.guard(64);
        due("34: one guard", x.account(0), 1);
        x.visitor(1, true);
        due("34: one visitor", x.account(1) + " " + x.account(2) + " " + x.account(3), "1 1 0");
        x.visitor(2, false);
        due("34: a foe, too", x.account(1) + " " + x.account(2) + " " + x.account(3), "2 1 1");
        due("34: a mistake", x.account(6), 1);
        x.teach(0, 0);
        due("34: a push", x.account(5), 1);
        due("34: a mistake about the foe", x.account(6), 1);
        x.teach(0, 1);
        due("34: two pushes", x.account(5), 2);
        due("34: no mistakes", x.account(6), 0);
        x.append('a');
        due("34: a character", x.account(7), 1);
        due("34: five changes", x.account(8), 5);
        x.undo();
        due("34: four changes", x.account(8), 4);
        due("34: one push", x.account(5), 1);
        x.forget(0);
        due("34: the foe is left", x.account(1) + " " + x.account(2) + " " + x.account(3), "1 0 1");
        due("34: the character stays", x.account(7), 1);
    }

    /** Promise 36: the least, the greatest, and one that is no whole number. */
    private static void meanBadges() {
        GateGuards x = new GateGuards();
        x.visitor(1023, true);
        due("36: the greatest", x.meanBadges(), 10.0);
        x.visitor(512, false);
        due("36: of two", x.meanBadges(), 5.5);
        x.visitor(1, false);
        due("36: of three", x.meanBadges(), 4.0);
        x.forget(0);
        due("36: the least", x.meanBadges(), 1.0);
        x.visitor(7, true);
        due("36: not a whole number", x.meanBadges(), 5.0 / 3.0);
        due("36: of twelve", twelve(1, true).meanBadges(), 2.5);
    }

    /** Promises 37 to 39: of nothing, and of all. */
    private static void undoAndSnapshot() {
        GateGuards x = twelve(1, true);
        due("38: twelve visitors", x.save(), 12);
        due("37: seven are left", x.undo(), 7);
        due("37: eleven visitors", x.account(1), 11);
        for (int left = 6; left >= 0; left--) {
            due("37: left", x.undo(), left);
        }
        due("37: four visitors", x.account(1), 4);
        CHECK.thrown("37: none is left", x, IllegalStateException.class, () -> x.undo());
        due("39: twelve visitors", x.restore(), 12);
        CHECK.thrown("37: none is left behind it", x, IllegalStateException.class, () -> x.undo());
        GateGuards y = new GateGuards();
        CHECK.thrown("39: no snapshot", y, IllegalStateException.class, () -> y.restore());
        due("38: nobody", y.save(), 0);
        y.guard(1);
        y.visitor(1, true);
        due("39: nobody", y.restore(), 0);
        due("39: no guards", y.account(0), 0);
        due("39: again", y.restore(), 0);
        due("38: nobody again", y.save(), 0);
    }
}
