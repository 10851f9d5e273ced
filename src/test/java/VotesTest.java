import java.util.NoSuchElementException;

/** Promises 22 to 26: votes, isVotedIn, agree, mistaken and ranked. */
public final class VotesTest {
    private static final Check CHECK = new Check("VotesTest");
    private static final int[] NO_SETS = {Integer.MIN_VALUE, -1, 0, 1024, Integer.MAX_VALUE};

    public static void main(String[] args) {
        votes();
        noGuards();
        agree();
        mistaken();
        ranked();
        rankedByPushes();
        CHECK.end();
    }

    /** Visitors a, b and c are friends, and ab is a foe; as many of them as told have taught each of the guards. */
    private static GateGuards taught(int... friendsTaught) {
        GateGuards x = new GateGuards();
        x.visitor(1, true);
        x.visitor(2, true);
        x.visitor(4, true);
        x.visitor(3, false);
        for (int guard = 0; guard < friendsTaught.length; guard++) {
            x.guard(64);
            for (int visitor = 0; visitor < friendsTaught[guard]; visitor++) {
                x.teach(guard, visitor);
            }
        }
        return x;
    }

    private static void votes() {
        GateGuards x = taught(0, 1);
        CHECK.due("22: one of two", x.votes(1), 1);
        CHECK.due("23: one of two is not more", x.isVotedIn(1), false);
        x.guard(1);
        x.teach(2, 0);
        CHECK.due("22: two of three", x.votes(1), 2);
        CHECK.due("23: two of three are more", x.isVotedIn(1), true);
        x.guard(1);
        CHECK.due("22: two of four", x.votes(1023), 2);
        CHECK.due("23: two of four are not more", x.isVotedIn(1023), false);
        x.teach(3, 0);
        CHECK.due("22: three of four", x.votes(512), 3);
        CHECK.due("23: three of four are more", x.isVotedIn(512), true);
        for (int none : NO_SETS) {
            CHECK.thrown("22: set " + none, x, IllegalArgumentException.class, () -> x.votes(none));
            CHECK.thrown("23: set " + none, x, IllegalArgumentException.class, () -> x.isVotedIn(none));
        }
    }

    private static void noGuards() {
        GateGuards x = taught();
        CHECK.due("22: no guards, no votes", x.votes(1), 0);
        CHECK.due("23: nobody is voted in", x.isVotedIn(1), false);
        CHECK.due("25: so about the friends it is mistaken", x.mistaken(), 3);
        CHECK.thrown("24: no guards", x, IndexOutOfBoundsException.class, () -> x.agree(0, 0));
        CHECK.thrown("26: no guards", x, NoSuchElementException.class, () -> x.ranked(0));
    }

    private static void agree() {
        GateGuards x = taught(0, 0, 1);
        CHECK.due("24: both keep all out", x.agree(0, 1), 4);
        CHECK.due("24: one lets all in", x.agree(0, 2), 0);
        CHECK.due("24: with oneself", x.agree(2, 2), 4);
        // the bias is 0 then, and so are a and c; b is -64
        x.teach(2, 3);
        CHECK.due("24: both keep all out again", x.agree(2, 0), 4);
        x.visitor(8, true);
        x.visitor(16, false);
        x.teach(1, 4);
        x.teach(1, 5);
        // guard 1: bias 0, d 64, e -64
        CHECK.due("24: all but d", x.agree(1, 2), 5);
        CHECK.due("24: the other way round", x.agree(2, 1), 5);
        for (int none : new int[] {Integer.MIN_VALUE, -1, 3, 4, Integer.MAX_VALUE}) {
            CHECK.thrown("24: one " + none, x, IndexOutOfBoundsException.class, () -> x.agree(none, 0));
            CHECK.thrown("24: other " + none, x, IndexOutOfBoundsException.class, () -> x.agree(0, none));
        }
        GateGuards nobody = new GateGuards();
        nobody.guard(1);
        CHECK.due("24: about nobody", nobody.agree(0, 0), 0);
    }

    private static void mistaken() {
        CHECK.due("25: one of two is not enough", taught(0, 1).mistaken(), 3);
        CHECK.due("25: two of two let the foe in, too", taught(1, 1).mistaken(), 1);
        CHECK.due("25: two of three, too", taught(0, 1, 1).mistaken(), 1);
        CHECK.due("25: two of four are not enough", taught(0, 1, 0, 1).mistaken(), 3);
        CHECK.due("25: about nobody", new GateGuards().mistaken(), 0);
    }

    private static void ranked() {
        GateGuards x = taught(0, 1, 0, 1);
        int[] due = {1, 3, 0, 2};
        for (int place = 0; place < 4; place++) {
            CHECK.due("26: place " + place, x.ranked(place), due[place]);
        }
        for (int none : new int[] {Integer.MIN_VALUE, -1, 4, Integer.MAX_VALUE}) {
            CHECK.thrown("26: place " + none, x, NoSuchElementException.class, () -> x.ranked(none));
        }
    }

    /** Of guards with as many mistakes the one with fewer pushes is ahead. */
    private static void rankedByPushes() {
        GateGuards x = taught(0, 1, 1, 1);
        x.caution(1, 256);
        x.teach(1, 0);
        CHECK.due("26: as many mistakes", x.guardOf(1, 4), x.guardOf(2, 4));
        int[] due = {2, 3, 1, 0};
        for (int place = 0; place < 4; place++) {
            CHECK.due("26: place " + place + " by pushes", x.ranked(place), due[place]);
        }
        CHECK.thrown("26: place 4", x, NoSuchElementException.class, () -> x.ranked(4));
        GateGuards y = new GateGuards();
        y.guard(1);
        CHECK.thrown("26: place 1 of one", y, NoSuchElementException.class, () -> y.ranked(1));
    }
}
