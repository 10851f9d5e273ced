import java.util.NoSuchElementException;

/** Promises 27 to 33: line, guardLine, character, append, run, errorPosition and refusal. */
public final class TextsTest {
    private static final Check CHECK = new Check("TextsTest");
    private static final Class<?> INDEX = IndexOutOfBoundsException.class;
    private static final Class<?> ARGUMENT = IllegalArgumentException.class;

    public static void main(String[] args) {
        line();
        guardLine();
        append();
        run();
        errors();
        ordersThatCannotBe();
        refusedOrders();
        nothingOfItIsCarriedOut();
        longTexts();
        refusal();
        CHECK.end();
    }

    private static void line() {
        GateGuards x = new GateGuards();
        CHECK.thrown("29: the line is empty at first", x, INDEX, () -> x.character(0));
        CHECK.thrown("27: no visitor", x, INDEX, () -> x.line(0));
        x.visitor(1023, false);
        x.visitor(512 + 1, true);
        x.visitor(4, true);
        CHECK.due("27: the length of all badges", x.line(0), 11);
        CHECK.due("27: the line of all badges", Check.lineOf(x), "-abcdefghij");
        CHECK.due("27: the length of a and j", x.line(1), 3);
        CHECK.due("27: the line of a and j", Check.lineOf(x), "+aj");
        CHECK.due("29: character 0", x.character(0), '+');
        CHECK.due("29: character 2", x.character(2), 'j');
        for (int none : new int[] {Integer.MIN_VALUE, -1, 3, 10, Integer.MAX_VALUE}) {
            CHECK.thrown("29: character " + none, x, INDEX, () -> x.character(none));
        }
        for (int none : new int[] {Integer.MIN_VALUE, -1, 3, Integer.MAX_VALUE}) {
            CHECK.thrown("27: visitor " + none, x, INDEX, () -> x.line(none));
        }
        x.forget(1);
        CHECK.due("29: the line stays", Check.lineOf(x), "+aj");
        CHECK.due("27: another in its place", x.line(1), 2);
        CHECK.due("27: in place of the line before", Check.lineOf(x), "+c");
        x.undo();
        x.save();
        x.restore();
        CHECK.due("29: the line is neither undone nor saved", Check.lineOf(x), "+c");
    }

    private static void guardLine() {
        GateGuards x = new GateGuards();
        CHECK.thrown("28: no guard", x, INDEX, () -> x.guardLine(0));
        x.guard(64);
        x.guard(5);
        CHECK.due("28: the length of noughts", x.guardLine(0), 21);
        CHECK.due("28: the line of noughts", Check.lineOf(x), "0 0 0 0 0 0 0 0 0 0 0");
        x.visitor(512 + 8, true);
        x.visitor(512 + 1, false);
        x.caution(0, 256);
        x.teach(0, 0);
        x.teach(0, 0);
        x.teach(0, 1);
        x.teach(0, 1);
        x.teach(0, 1);
        x.teach(0, 1);
        CHECK.due("28: the length of pushes", x.guardLine(0), 30);
        CHECK.due("28: the line of pushes", Check.lineOf(x), "-64 -192 0 0 128 0 0 0 0 0 -64");
        x.teach(1, 0);
        x.guardLine(1);
        CHECK.due("28: the line of another", Check.lineOf(x), "5 0 0 0 5 0 0 0 0 0 5");
        for (int none : new int[] {Integer.MIN_VALUE, -1, 2, Integer.MAX_VALUE}) {
            CHECK.thrown("28: guard " + none, x, INDEX, () -> x.guardLine(none));
        }
    }

    private static void append() {
        GateGuards x = new GateGuards();
        for (int i = 1; i <= 60; i++) {
            CHECK.due("30: append", x.append((char) (i * 1000)), i);
        }
        CHECK.due("30: account 7", x.account(7), 60);
        CHECK.thrown("30: a sixty-first", x, IllegalStateException.class, () -> x.append('+'));
        CHECK.due("31: no text", Check.outcomeOf(() -> x.run()), "IllegalArgumentException");
        CHECK.due("31: the input is empty afterwards", x.account(7), 0);
        CHECK.due("30: there is room again", x.append('+'), 1);
        x.visitor(1, true);
        x.undo();
        x.save();
        x.restore();
        CHECK.due("30: the input is neither undone nor saved", x.account(7), 1);
        CHECK.due("30: append is no change", x.account(8), 0);
    }

    private static String ran(GateGuards x, String text) {
        Check.put(x, text);
        String outcome = Check.outcomeOf(() -> x.run());
        CHECK.due("31: the input is empty behind " + text, x.account(7), 0);
        return outcome;
    }

    private static void run() {
        GateGuards x = new GateGuards();
        CHECK.due("31: two visitors and a guard", ran(x, "+acj;-b;g07"), "3");
        CHECK.due("31: one change", x.account(8), 1);
        CHECK.due("31: visitor 0", x.visitorOf(0, 0) + " " + x.visitorOf(0, 1), "517 1");
        CHECK.due("31: visitor 1", x.visitorOf(1, 0) + " " + x.visitorOf(1, 1), "2 0");
        CHECK.due("31: guard 0", x.guardOf(0, 0), 7);
        CHECK.due("32: no error", x.errorPosition(), -1);
        CHECK.due("31: a lesson", ran(x, "t0:00"), "1");
        CHECK.due("31: is had", x.guardOf(0, 6) + " " + x.guardOf(0, 3), "1 1");
        CHECK.due("31: two days", ran(x, "d0;d0"), "2");
        CHECK.due("31: are had", x.guardOf(0, 2) + " " + x.guardOf(0, 6), "2 5");
        CHECK.due("31: forget", ran(x, "x0"), "1");
        CHECK.due("31: is forgotten", x.visitorOf(0, 0) + " " + x.account(1), "2 1");
        CHECK.due("31: orders use what those before have made", ran(x, "x0;+a;g64;t1:0;d1;x00"), "6");
        CHECK.due("31: nobody is left", x.account(1), 0);
        CHECK.due("31: guard 1", x.guardOf(1, 0) + " " + x.guardOf(1, 6) + " " + x.guardOf(1, 2), "64 2 1");
        CHECK.due("31: five changes", x.account(8), 5);
        x.undo();
        CHECK.due("31: undone as one", x.account(0) + " " + x.account(1) + " " + x.visitorOf(0, 0), "1 1 2");
        CHECK.due("31: numbers of two digits", ran(x, "+a;+b;+c;+d;+e;+f;+g;+h;+i;+j;+ab"), "UnsupportedOperationException");
        CHECK.due("31: b was known: the visitor", Check.reasonOf(x), "2 0");
        CHECK.due("31: eleven more", ran(x, "+a;+c;+d;+e;+f;+g;+h;+i;+j;+ab;+abc"), "11");
        CHECK.due("31: forget the twelfth", ran(x, "t0:11;x11"), "2");
        CHECK.due("31: eleven are left", x.account(1), 11);
    }

    private static void errors() {
        String[] texts = {"", ";", "+", "-", "+a;", "+a;;+b", "+k", "+ab+c", "+ba", "+aa", "+jj", "+abcdefghijk", "+A",
            "x", "x;", "xa", "x123", "x-1", "g", "g:1", "g640", "g6.", "t", "t0", "t0:", "t00:1", "t:0", "t0;0", "t0:123",
            "t0:a", "d", "d00", "da", "d0:1", " +a", "+a ", "y0", "X0", "+a;x0;t0:0;d0;g5;q", "0", ":", "+a;x0;-", "g1\u0000",
            "\u0000", "+\u0161", "d\u0660", "t0:1;t1:2x"};
        int[] positions = {0, 0, 1, 1, 3, 3, 1, 3, 2, 2, 2, 11, 1,
            1, 1, 1, 3, 1, 1, 1, 3, 2, 1, 2, 3, 2, 1, 2, 5,
            3, 1, 2, 1, 2, 0, 2, 0, 0, 17, 0, 0, 7, 2,
            0, 1, 1, 9};
        CHECK.due("32: as many positions as texts", positions.length, texts.length);
        GateGuards x = new GateGuards();
        x.guard(9);
        x.visitor(1023, false);
        String gate = Check.gateOf(x);
        for (int i = 0; i < texts.length; i++) {
            CHECK.due("31: the text '" + texts[i] + "'", ran(x, texts[i]), "IllegalArgumentException");
            CHECK.due("32: the position of '" + texts[i] + "'", x.errorPosition(), positions[i]);
            CHECK.due("31: nothing of '" + texts[i] + "' is carried out", Check.gateOf(x), gate);
        }
        CHECK.due("31: no changes", x.account(8), 2);
        CHECK.due("31: no refusals", Check.reasonOf(x), "none");
        ran(x, "+a");
        CHECK.due("32: a text without an error", x.errorPosition(), -1);
        ran(x, "+a!");
        x.undo();
        CHECK.due("32: the position is not undone", x.errorPosition(), 2);
        x.save();
        ran(x, "+a");
        x.restore();
        CHECK.due("32: nor saved", x.errorPosition(), -1);
    }

    private static void ordersThatCannotBe() {
        GateGuards x = new GateGuards();
        x.guard(9);
        x.visitor(1023, false);
        String gate = Check.gateOf(x);
        for (String text : new String[] {"x1", "x99", "g0", "g00", "g65", "g99", "t1:0", "t9:0", "t0:1", "t0:99", "d1", "d9",
            "+a;x2", "x0;t0:0", "g5;d2", "x0;x0"}) {
            CHECK.due("31: the orders " + text, ran(x, text), "IllegalArgumentException");
            CHECK.due("32: they have no error: " + text, x.errorPosition(), -1);
            CHECK.due("31: nothing of them is carried out: " + text, Check.gateOf(x), gate);
        }
        CHECK.due("31: no change", x.account(8), 2);
        CHECK.due("31: and no refusal", Check.reasonOf(x), "none");
    }

    private static void refusedOrders() {
        GateGuards x = new GateGuards();
        x.guard(9);
        x.visitor(1023, false);
        x.visitor(1, true);
        String gate = Check.gateOf(x);
        String[] texts = {"-a", "x0;+a", "x0;x0;d0", "g1;x0;x0;d1", "g1;g2;g3;g4", "+b;-c;+bc;-b", "x0;d0;+b;+a;x9",
            "+b;+c;+d;+e;+f;+g;+h;+i;+j;+ab;+ac", "+b;+c;+d;+e;+f;+g;+h;+i;+j;+ab;+j"};
        String[] reasons = {"2 1", "2 0", "3 1", "3 2", "1 4", "2 2", "2 0", "1 12", "2 10"};
        for (int i = 0; i < texts.length; i++) {
            CHECK.due("31: the orders " + texts[i], ran(x, texts[i]), "UnsupportedOperationException");
            CHECK.due("33: the reason of " + texts[i], Check.reasonOf(x), reasons[i]);
            CHECK.due("32: they have no error: " + texts[i], x.errorPosition(), -1);
            CHECK.due("31: nothing of them is carried out: " + texts[i], Check.gateOf(x), gate);
        }
        CHECK.due("31: no change", x.account(8), 3);
        CHECK.due("31: an error is ahead of a refusal", ran(x, "+a;z"), "IllegalArgumentException");
        CHECK.due("31: the first order that cannot be decides", ran(x, "x9;+a"), "IllegalArgumentException");
        CHECK.due("33: and then the reason stays", Check.reasonOf(x), "2 10");
        CHECK.due("31: the first that cannot be is refused", ran(x, "+a;x9"), "UnsupportedOperationException");
        CHECK.due("33: and then the reason is its own", Check.reasonOf(x), "2 1");
    }

    private static void nothingOfItIsCarriedOut() {
        GateGuards x = new GateGuards();
        x.guard(9);
        x.visitor(6, true);
        x.visitor(2, false);
        x.days(0, 30);
        x.save();
        String before = Check.stateOf(x);
        CHECK.due("31: all but the last can be", ran(x, "t0:0;d0;x0;+a;t0:1;d0;g8;d1;x0;+a"), "UnsupportedOperationException");
        CHECK.due("31: nothing of it is carried out", Check.stateOf(x), before);
        CHECK.due("31: the changes before can be undone", x.undo(), 3);
    }

    private static void longTexts() {
        GateGuards x = new GateGuards();
        x.guard(1);
        x.visitor(1, true);
        CHECK.due("31: twenty orders", ran(x, "d0;d0;d0;d0;d0;d0;d0;d0;d0;d0;d0;d0;d0;d0;d0;d0;d0;d0;d0;d0"), "20");
        CHECK.due("31: twenty days", x.guardOf(0, 2), 20);
        Check.put(x, "d0;d0;d0;d0;d0;d0;d0;d0;d0;d0;d0;d0;d0;d0;d0;d0;d0;d0;d0;d0;");
        CHECK.due("31: sixty characters that end too early", Check.outcomeOf(() -> x.run()), "IllegalArgumentException");
        CHECK.due("32: at their end", x.errorPosition(), 60);
        Check.put(x, "+abcdefghij;+abcdefghi;+abcdefgh;+abcdefg;+abcdef;+abcde;d00");
        CHECK.due("31: sixty characters with an error", Check.outcomeOf(() -> x.run()), "IllegalArgumentException");
        CHECK.due("32: at the last", x.errorPosition(), 59);
    }

    private static void refusal() {
        GateGuards x = new GateGuards();
        CHECK.thrown("33: nothing was refused", x, NoSuchElementException.class, () -> x.refusal(false));
        CHECK.thrown("33: nor its detail", x, NoSuchElementException.class, () -> x.refusal(true));
        x.guard(7);
        CHECK.refused("33: reason 4", x, 4, 7, () -> x.rate(0, 7));
        CHECK.refused("33: reason 3", x, 3, 1, () -> x.day(0));
        x.visitor(9, true);
        CHECK.refused("33: reason 2", x, 2, 0, () -> x.visitor(9, true));
        x.guard(1);
        x.guard(1);
        x.guard(1);
        CHECK.refused("33: reason 1", x, 1, 4, () -> x.guard(1));
        CHECK.thrown("33: other exceptions leave it", x, INDEX, () -> x.day(4));
        x.save();
        x.caution(0, 3);
        CHECK.refused("33: the latest one", x, 4, 3, () -> x.caution(0, 3));
        x.undo();
        CHECK.due("33: it is not undone", Check.reasonOf(x), "4 3");
        x.restore();
        CHECK.due("33: nor saved", Check.reasonOf(x), "4 3");
        CHECK.due("33: asked for again", x.refusal(true), 3);
    }
}
