/** The boundary cases that "Texts" in "Terms" and the promises 30 to 33 name: a method for each sentence. */
public final class EdgesOfTextsTest {
    private static final Check CHECK = new Check("EdgesOfTextsTest");
    private static final Class<?> STATE = IllegalStateException.class;
    private static final String NO_ARGUMENT = "IllegalArgumentException";
    private static final String REFUSED = "UnsupportedOperationException";
    /** Nineteen orders, and the semicolon behind them: 57 characters. */
    private static final String MANY_DAYS = "d0;d0;d0;d0;d0;d0;d0;d0;d0;d0;d0;d0;d0;d0;d0;d0;d0;d0;d0;";

    /** A beginning of a text, the characters that can continue it, and whether it is a text already. */
    private static final String[][] BEGINNINGS = {
        {"", "+-xgtd", ""}, {"+", "abcdefghij", ""}, {"-", "abcdefghij", ""}, {"+a", "bcdefghij;", "text"},
        {"-a", "bcdefghij;", "text"}, {"+e", "fghij;", "text"}, {"+i", "j;", "text"}, {"+j", ";", "text"},
        {"-ae", "fghij;", "text"}, {"-bj", ";", "text"}, {"+abcdefghi", "j;", "text"}, {"+abcdefghij", ";", "text"},
        {"x", "0123456789", ""}, {"x0", "0123456789;", "text"}, {"x9", "0123456789;", "text"}, {"x00", ";", "text"},
        {"x99", ";", "text"}, {"g", "0123456789", ""}, {"g0", "0123456789;", "text"}, {"g9", "0123456789;", "text"},
        {"g64", ";", "text"}, {"t", "0123456789", ""}, {"t0", ":", ""}, {"t9", ":", ""}, {"t0:", "0123456789", ""},
        {"t0:0", "0123456789;", "text"}, {"t0:11", ";", "text"}, {"d", "0123456789", ""}, {"d0", ";", "text"},
        {"d9", ";", "text"}, {"+a;", "+-xgtd", ""}, {"x1;", "+-xgtd", ""}, {"g1;", "+-xgtd", ""}, {"t0:0;", "+-xgtd", ""},
        {"d0;", "+-xgtd", ""}, {"-j;-", "abcdefghij", ""}, {"+b;+a", "bcdefghij;", "text"}, {"d1;x", "0123456789", ""}};

    public static void main(String[] args) {
        sixtyCharacters();
        nothingToRun();
        inputIsEmptyAfterwards();
        errorPositions();
        errorPositionsInFullInputs();
        earliestError();
        latestRun();
        numbers();
        orders();
        firstThatCannotBe();
        errorAheadOfOrders();
        noneOrAll();
        reasonOfRun();
        CHECK.end();
    }

    private static String ran(GateGuards x, String text) {
        Check.put(x, text);
        return Check.outcomeOf(() -> x.run());
    }

    /** Runs a text that throws, and looks that only the input, the position and the reason are other ones then. */
    private static void cannot(GateGuards x, String text, String exception, int position, String reason) {
        String gate = Check.gateOf(x);
        String line = Check.lineOf(x);
        int changes = x.account(8);
        CHECK.due("run of '" + text + "'", ran(x, text), exception);
        CHECK.due("position of '" + text + "'", x.errorPosition(), position);
        CHECK.due("reason of '" + text + "'", Check.reasonOf(x), reason);
        CHECK.due("input behind '" + text + "'", x.account(7), 0);
        CHECK.due("gate behind '" + text + "'", Check.gateOf(x), gate);
        CHECK.due("line behind '" + text + "'", Check.lineOf(x), line);
        CHECK.due("changes behind '" + text + "'", x.account(8), changes);
    }

    /** "The input has at most 60 characters." */
    private static void sixtyCharacters() {
        GateGuards x = new GateGuards();
        CHECK.due("sixty: empty at first", x.account(7), 0);
        for (int i = 1; i <= 60; i++) {
            CHECK.due("sixty: character " + i, x.append(i % 2 == 0 ? (char) 0 : (char) 0xffff), i);
            CHECK.due("sixty: in the input", x.account(7), i);
        }
        for (int i = 0; i < 3; i++) {
            CHECK.thrown("sixty: no more", x, STATE, () -> x.append('+'));
        }
        CHECK.due("sixty: an error at the first", ran(x, ""), NO_ARGUMENT);
        CHECK.due("sixty: its position", x.errorPosition(), 0);
        CHECK.due("sixty: room again", x.append('+'), 1);
        CHECK.due("sixty: and again", x.append('a'), 2);
        CHECK.due("sixty: nothing of the text before is left", Check.outcomeOf(() -> x.run()), "1");
        GateGuards y = new GateGuards();
        y.guard(1);
        y.visitor(1, true);
        Check.put(y, MANY_DAYS + "t0");
        CHECK.due("sixty: the last that there is room for", y.append(':'), 60);
        CHECK.thrown("sixty: no room for the visitor", y, STATE, () -> y.append('0'));
        CHECK.due("sixty: so it ends too early", ran(y, ""), NO_ARGUMENT);
        CHECK.due("sixty: at its end", y.errorPosition(), 60);
        CHECK.due("sixty: no day has gone by", y.guardOf(0, 2), 0);
        CHECK.due("sixty: all sixty are run", ran(y, MANY_DAYS + "+bc"), "20");
        CHECK.due("sixty: the last order, too", y.visitorOf(1, 0), 6);
    }

    /** "or the length of the text if it ends too early": nothing there yet */
    private static void nothingToRun() {
        GateGuards x = new GateGuards();
        CHECK.due("nothing: no run yet", x.errorPosition(), -1);
        cannot(x, "", NO_ARGUMENT, 0, "none");
        cannot(x, "", NO_ARGUMENT, 0, "none");
        CHECK.due("nothing: a text", ran(x, "+a"), "1");
        CHECK.due("nothing: without an error", x.errorPosition(), -1);
        cannot(x, "", NO_ARGUMENT, 0, "none");
    }

    /** "the text in the input, which is empty afterwards, also if an exception is thrown" */
    private static void inputIsEmptyAfterwards() {
        GateGuards x = new GateGuards();
        CHECK.due("afterwards: a text", ran(x, "g1;+a"), "2");
        CHECK.due("afterwards: empty", x.account(7), 0);
        cannot(x, "+", NO_ARGUMENT, 1, "none");
        cannot(x, "+a", REFUSED, -1, "2 0");
        cannot(x, "x1", NO_ARGUMENT, -1, "2 0");
        CHECK.due("afterwards: the next text stands alone", ran(x, "d0"), "1");
    }

    /** "the offset of the first character that cannot continue such a text" */
    private static void errorPositions() {
        for (String[] beginning : BEGINNINGS) {
            boolean isText = !beginning[2].isEmpty();
            look(beginning[0], isText ? -1 : beginning[0].length());
            for (char c = 0; c < 384; c++) {
                next(beginning, c);
            }
            for (char c : new char[] {0x660, 0x6f0, 0xff10, 0xff41, 0xff0b, 0x2212, 0x1d7, 0x2b + 256, 0x61 + 256, 0xffff}) {
                next(beginning, c);
            }
        }
    }

    private static void next(String[] beginning, char c) {
        String text = beginning[0] + c;
        if (beginning[1].indexOf(c) < 0) {
            look(text, beginning[0].length());
        } else {
            look(text, isComplete(text) ? -1 : text.length());
        }
    }

    /** Whether a text that has no error so far can end with its last character. */
    private static boolean isComplete(String text) {
        String order = text.substring(text.lastIndexOf(';') + 1);
        return order.length() >= 2 && (order.charAt(0) != 't' || order.length() >= 4);
    }

    private static void look(String text, int position) {
        GateGuards x = new GateGuards();
        Check.put(x, text);
        String outcome = Check.outcomeOf(() -> x.run());
        CHECK.due("position of '" + text + "'", x.errorPosition(), position);
        if (position >= 0) {
            CHECK.due("run of '" + text + "'", outcome, NO_ARGUMENT);
        }
    }

    /** The same sentence, at the end of an input that is full. */
    private static void errorPositionsInFullInputs() {
        String tens = "+abcdefghij;+abcdefghij;+abcdefghij;+abcdefghij;+abcdefghij;";
        CHECK.due("full: sixty characters", tens.length(), 60);
        look(tens, 60);
        look(tens.substring(0, 59) + "k", 59);
        look(tens.substring(0, 59) + (char) 0, 59);
        look(tens.substring(0, 59), -1);
        look("d0;" + tens.substring(0, 56) + "+", 60 - 1);
        look("x0;" + tens.substring(0, 56) + "j", -1);
        look("x0;" + tens.substring(0, 56) + "g", 59);
        look("x0" + tens.substring(11, 59) + ";t00:00", 53);
        look("t0:00" + tens.substring(11, 59) + ";t0:00", -1);
        look("t0:0" + tens.substring(11, 59) + ";t0:00;", 59);
        look("t0:0;" + tens.substring(12, 60) + "t0:00;x", 60);
        StringBuilder shortest = new StringBuilder("d0");
        while (shortest.length() < 57) {
            shortest.append(";d0");
        }
        look(shortest.toString(), -1);
        look(shortest + ";", shortest.length() + 1);
        GateGuards x = new GateGuards();
        x.guard(1);
        x.visitor(1, true);
        CHECK.due("full: most orders", ran(x, shortest.toString()), "20");
        CHECK.due("full: all are carried out", x.guardOf(0, 2), 20);
        CHECK.due("full: in one change", x.account(8), 3);
    }

    /** "the first character": a later error does not count, nor one that the orders would have. */
    private static void earliestError() {
        GateGuards x = new GateGuards();
        cannot(x, "+ba;q;+", NO_ARGUMENT, 2, "none");
        cannot(x, "x9;g0;d7;+k", NO_ARGUMENT, 10, "none");
        cannot(x, "d0;d0;", NO_ARGUMENT, 6, "none");
        x.guard(1);
        cannot(x, "d0;;", NO_ARGUMENT, 3, "none");
        cannot(x, "g1;g1;g1;g1 ", NO_ARGUMENT, 11, "none");
    }

    /** "the error position of the text of the latest call of run", "or -1 if .. run has not been called" */
    private static void latestRun() {
        GateGuards x = new GateGuards();
        Check.put(x, "??");
        CHECK.due("latest: not run yet", x.errorPosition(), -1);
        CHECK.due("latest: run", ran(x, ""), NO_ARGUMENT);
        CHECK.due("latest: its position", x.errorPosition(), 0);
        Check.put(x, "+a!");
        CHECK.due("latest: not the text that is not run", x.errorPosition(), 0);
        CHECK.due("latest: run then", ran(x, ""), NO_ARGUMENT);
        CHECK.due("latest: its position then", x.errorPosition(), 2);
        CHECK.due("latest: an order that cannot be", ran(x, "x0"), NO_ARGUMENT);
        CHECK.due("latest: is no error", x.errorPosition(), -1);
        CHECK.due("latest: an error", ran(x, "+a;"), NO_ARGUMENT);
        CHECK.due("latest: at the end", x.errorPosition(), 3);
        CHECK.due("latest: a text that is refused", ran(x, "g1;d0"), REFUSED);
        CHECK.due("latest: has no error", x.errorPosition(), -1);
        CHECK.due("latest: an error again", ran(x, "a"), NO_ARGUMENT);
        CHECK.due("latest: a text", ran(x, "g1"), "1");
        CHECK.due("latest: has no error, too", x.errorPosition(), -1);
    }

    /** "Guards have one digit, other numbers one or two." */
    private static void numbers() {
        GateGuards x = new GateGuards();
        CHECK.due("numbers: rates", ran(x, "g1;g01;g64;g9"), "4");
        CHECK.due("numbers: as told", x.guardOf(0, 0) + " " + x.guardOf(1, 0) + " " + x.guardOf(2, 0) + " " + x.guardOf(3, 0),
            "1 1 64 9");
        CHECK.due("numbers: twelve visitors", ran(x, "+a;+b;+c;+d;+e;+f;+g;+h;+i;+j;-ab;-cd"), "12");
        CHECK.due("numbers: lessons", ran(x, "t0:0;t0:00;t0:9;t0:09;t0:10;t3:11"), "6");
        CHECK.due("numbers: of guard 0", x.guardOf(0, 6), 5);
        CHECK.due("numbers: of guard 3", x.guardOf(3, 6), 1);
        CHECK.due("numbers: days", ran(x, "d0;d3"), "2");
        CHECK.due("numbers: of both", x.guardOf(0, 2) + " " + x.guardOf(3, 2), "1 1");
        CHECK.due("numbers: the last visitor", ran(x, "x11"), "1");
        CHECK.due("numbers: is forgotten", x.account(1), 11);
        CHECK.due("numbers: visitor 1", ran(x, "x01;x1"), "2");
        CHECK.due("numbers: b and c are forgotten", x.visitorOf(0, 0) + " " + x.visitorOf(1, 0), "1 8");
        cannot(x, "x100", NO_ARGUMENT, 3, "none");
        cannot(x, "g001", NO_ARGUMENT, 3, "none");
        cannot(x, "t0:001", NO_ARGUMENT, 5, "none");
        cannot(x, "t00:1", NO_ARGUMENT, 2, "none");
        cannot(x, "d00", NO_ARGUMENT, 2, "none");
    }

    /** "if the text has an error, or the method for an order would throw another exception": the last and the first. */
    private static void orders() {
        GateGuards x = new GateGuards();
        cannot(x, "g0", NO_ARGUMENT, -1, "none");
        cannot(x, "g65", NO_ARGUMENT, -1, "none");
        cannot(x, "g99", NO_ARGUMENT, -1, "none");
        cannot(x, "x0", NO_ARGUMENT, -1, "none");
        cannot(x, "d0", NO_ARGUMENT, -1, "none");
        cannot(x, "t0:0", NO_ARGUMENT, -1, "none");
        x.guard(1);
        cannot(x, "t0:0", NO_ARGUMENT, -1, "none");
        cannot(x, "d1", NO_ARGUMENT, -1, "none");
        cannot(x, "d0", REFUSED, -1, "3 1");
        x.visitor(1, true);
        cannot(x, "t0:1", NO_ARGUMENT, -1, "3 1");
        cannot(x, "t1:0", NO_ARGUMENT, -1, "3 1");
        cannot(x, "x1", NO_ARGUMENT, -1, "3 1");
        cannot(x, "d1", NO_ARGUMENT, -1, "3 1");
        CHECK.due("orders: the last that can be", ran(x, "t0:0;d0;g64;d1;t1:0;x0"), "6");
        CHECK.due("orders: nobody is left", x.account(1), 0);
        CHECK.due("orders: up to four guards", ran(x, "g1;g64"), "2");
        cannot(x, "g1", REFUSED, -1, "1 4");
        cannot(x, "g0", NO_ARGUMENT, -1, "1 4");
        cannot(x, "g65", NO_ARGUMENT, -1, "1 4");
        CHECK.due("orders: up to twelve visitors", ran(x, "+a;+b;+c;+d;+e;+f;+g;+h;+i;+j;-ab;-abcdefghij"), "12");
        cannot(x, "+ac", REFUSED, -1, "1 12");
        cannot(x, "-a", REFUSED, -1, "2 0");
        cannot(x, "+abcdefghij", REFUSED, -1, "2 11");
        cannot(x, "t3:12", NO_ARGUMENT, -1, "2 11");
        cannot(x, "t4:11", NO_ARGUMENT, -1, "2 11");
        cannot(x, "x12", NO_ARGUMENT, -1, "2 11");
        cannot(x, "d4", NO_ARGUMENT, -1, "2 11");
        CHECK.due("orders: the last of all", ran(x, "t3:11;d3;x11"), "3");
    }

    /** "the first order that cannot be decides what is thrown" */
    private static void firstThatCannotBe() {
        GateGuards x = new GateGuards();
        x.guard(1);
        x.visitor(1, true);
        cannot(x, "+a;x5", REFUSED, -1, "2 0");
        cannot(x, "x5;+a", NO_ARGUMENT, -1, "2 0");
        cannot(x, "x0;d0;+b;+b", REFUSED, -1, "3 1");
        cannot(x, "g2;x0;d1;g0", REFUSED, -1, "3 2");
        cannot(x, "+b;+b;x5", REFUSED, -1, "2 1");
        cannot(x, "+b;x2;+b", NO_ARGUMENT, -1, "2 1");
        cannot(x, "x0;t0:0;d0", NO_ARGUMENT, -1, "2 1");
        cannot(x, "g1;g1;g1;g1;g0", REFUSED, -1, "1 4");
        cannot(x, "g1;g1;g1;g0;g1", NO_ARGUMENT, -1, "1 4");
        cannot(x, "d0;t0:0;x0;x0", NO_ARGUMENT, -1, "1 4");
    }

    /** An error of the text is thrown even where an order ahead of it would be refused. */
    private static void errorAheadOfOrders() {
        GateGuards x = new GateGuards();
        x.guard(1);
        cannot(x, "d0;", NO_ARGUMENT, 3, "none");
        cannot(x, "d0;d", NO_ARGUMENT, 4, "none");
        cannot(x, "d0;+aa", NO_ARGUMENT, 5, "none");
        cannot(x, "+a;+a;x", NO_ARGUMENT, 7, "none");
    }

    /** "carried out if each order can be, one after the other; else nothing of it is" */
    private static void noneOrAll() {
        GateGuards x = new GateGuards();
        x.guard(64);
        x.visitor(1, true);
        x.visitor(3, false);
        x.save();
        x.day(0);
        String gate = Check.gateOf(x);
        String[] ends = {"x9", "+a", "g0", "g65", "t0:9", "t9:0", "d9", "-ab"};
        for (String end : ends) {
            for (String beginning : new String[] {"g1;d1;d0;", "x0;+c;t0:1;x1;+ab;+a;", "-c;-d;-e;x2;x2;x2;", ""}) {
                String text = beginning + end;
                String outcome = ran(x, text);
                CHECK.due("none: of " + text, outcome.endsWith("Exception"), true);
                CHECK.due("none: the gate behind " + text, Check.gateOf(x), gate);
                CHECK.due("none: changes behind " + text, x.account(8), 4);
            }
        }
        CHECK.due("all: each order uses what the one before has made", ran(x, "x0;+a;g1;t1:1;d1;x0;x0;-ab"), "8");
        CHECK.due("all: one change", x.account(8), 5);
        CHECK.due("all: the visitor", x.account(1) + " " + x.visitorOf(0, 0) + " " + x.visitorOf(0, 1), "1 3 0");
        CHECK.due("all: undone at once", x.undo(), 4);
        CHECK.due("all: as before", Check.gateOf(x), gate);
        x.undo();
        CHECK.due("all: the day ahead of it is undone, too", x.guardOf(0, 2), 0);
        x.restore();
        CHECK.due("all: the snapshot stays as it was", x.guardOf(0, 2) + " " + x.account(1), "0 2");
    }

    /** "refused for a reason of the method for an order; the reason is kept for refusal" */
    private static void reasonOfRun() {
        GateGuards x = new GateGuards();
        cannot(x, "+a;+b;-b", REFUSED, -1, "2 1");
        cannot(x, "g1;g1;d0", REFUSED, -1, "3 2");
        cannot(x, "g1;g1;g1;g1;g1", REFUSED, -1, "1 4");
        cannot(x, "+a;+b;+c;+d;+e;+f;+g;+h;+i;+j;+ab;+bc;+cd", REFUSED, -1, "1 12");
        cannot(x, "+a;+b;+c;+d;+e;+f;+g;+h;+i;+j;+ab;+bc;-bc", REFUSED, -1, "2 11");
        CHECK.due("reason: another text", ran(x, "g1"), "1");
        CHECK.due("reason: leaves it", Check.reasonOf(x), "2 11");
    }
}
