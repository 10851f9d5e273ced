/** Long runs of all calls, ordinary and wrong ones, whose answers are compared with those of the Model. */
public final class ModelTest {
    private static final Check CHECK = new Check("ModelTest");
    private static final int RUNS = 400;
    private static final int CALLS = 512;
    private static final String[] ORDERS = {"+a", "-b", "+ab", "-bc", "+c", "-cd", "+abc", "-j", "+aj", "x0", "x1", "x11",
        "g1", "g64", "g20", "g0", "t0:0", "t0:1", "t1:0", "t1:2", "t3:11", "d0", "d1", "d2", "t9:0", "d7", "x12"};
    private static final String SIGNS = "+-abcj;;xgtd0123459::k ";

    /** The same numbers in each run of this test. */
    private static final class Numbers {
        private long state;

        Numbers(long start) {
            state = start * 7919 + 12345;
        }

        int below(int bound) {
            state = state * 6364136223846793005L + 1442695040888963407L;
            return (int) ((state >>> 33) % bound);
        }

        boolean oneIn(int many) {
            return below(many) == 0;
        }
    }

    private final Numbers numbers;
    private final GateGuards x = new GateGuards();
    private final Model model = new Model();
    private final String name;
    private int calls = 0;

    private ModelTest(int run) {
        numbers = new Numbers(run);
        name = "run " + run + ", call ";
    }

    public static void main(String[] args) {
        for (int run = 0; run < RUNS; run++) {
            new ModelTest(run).live(run % 4);
        }
        new ModelTest(RUNS).manyDays();
        CHECK.end();
    }

    private void live(int manner) {
        while (calls < CALLS) {
            switch (manner) {
                case 0 -> anyCall();
                case 1 -> oneOf(numbers.oneIn(3) ? 40 : numbers.below(35));
                case 2 -> oneOf(numbers.oneIn(2) ? 4 + numbers.below(13) : numbers.below(35));
                default -> lesson();
            }
        }
    }

    /** So many days that the sums of the weights, being floats, are rounded. */
    private void manyDays() {
        int[] visitors = {-990, -60, 250, 885, 700, 639, 494, 280, -766, -182, -121, -938};
        both("guard", () -> x.guard(63), () -> model.guard(63));
        both("caution", () -> x.caution(0, 252), () -> model.caution(0, 252));
        for (int badges : visitors) {
            both("visitor", () -> x.visitor(Math.abs(badges), badges > 0), () -> model.visitor(Math.abs(badges), badges > 0));
        }
        while (calls < CALLS - 100) {
            both("days", () -> x.days(0, 30), () -> model.days(0, 30));
            if (calls % 15 == 0) {
                int badge = calls / 15 % 10;
                both("mean", () -> x.mean(0, badge), () -> model.mean(0, badge));
            }
        }
        for (int i = 0; i < 10; i++) {
            int badge = i;
            both("mean", () -> x.mean(0, badge), () -> model.mean(0, badge));
        }
        CHECK.due("the days were not calm", x.guardOf(0, 2) > 9000, true);
        CHECK.due("the sums were rounded", x.mean(0, 4) * x.guardOf(0, 2) > 1 << 18, true);
    }

    private void anyCall() {
        oneOf(numbers.below(40));
    }

    private void lesson() {
        int kind = numbers.below(20);
        if (kind < 3) {
            oneOf(kind == 0 ? 0 : kind == 1 ? 3 : 2);
        } else if (kind < 10) {
            oneOf(16 + numbers.below(5));
        } else {
            oneOf(5 + numbers.below(20));
        }
    }

    private void both(String what, Check.Call mine, Check.Call due) {
        if (calls < CALLS) {
            calls++;
            CHECK.due(name + calls + ": " + what, Check.outcomeOf(mine), Check.outcomeOf(due));
        }
    }

    private int guard() {
        return numbers.oneIn(25) ? numbers.below(9) - 3 : numbers.below(Math.max(1, x.account(0)));
    }

    private int visitor() {
        return numbers.oneIn(25) ? numbers.below(17) - 2 : numbers.below(Math.max(1, x.account(1)));
    }

    private int badges() {
        if (numbers.oneIn(25)) {
            return new int[] {0, -1, 1024, Integer.MIN_VALUE, Integer.MAX_VALUE}[numbers.below(5)];
        }
        return 1 + (numbers.oneIn(2) ? numbers.below(1023) : numbers.below(15));
    }

    private int rateOrCaution() {
        return numbers.oneIn(3) ? numbers.below(260) - 1 : 1 + numbers.below(64);
    }

    private void oneOf(int kind) {
        if (kind < 5) {
            tell(kind);
        } else if (kind < 16) {
            ask(kind);
        } else if (kind < 22) {
            teach(kind);
        } else if (kind < 35) {
            other(kind);
        } else {
            text();
        }
    }

    private void tell(int kind) {
        int g = guard();
        int v = visitor();
        int b = badges();
        int r = rateOrCaution();
        boolean isFriend = numbers.oneIn(2);
        switch (kind) {
            case 0 -> both("guard " + r, () -> x.guard(r), () -> model.guard(r));
            case 1 -> both("rate " + g + " " + r, () -> x.rate(g, r), () -> model.rate(g, r));
            case 2 -> both("caution " + g + " " + r, () -> x.caution(g, r), () -> model.caution(g, r));
            case 3 -> both("visitor " + b + " " + isFriend, () -> x.visitor(b, isFriend), () -> model.visitor(b, isFriend));
            default -> {
                if (numbers.oneIn(2)) {
                    both("forget " + v, () -> x.forget(v), () -> model.forget(v));
                }
            }
        }
    }

    private void ask(int kind) {
        int g = guard();
        int v = visitor();
        int b = badges();
        int what = numbers.below(9) - 1;
        int badge = numbers.below(13) - 2;
        boolean isAgain = numbers.oneIn(2);
        switch (kind) {
            case 5 -> both("visitorOf " + v + " " + what, () -> x.visitorOf(v, what), () -> model.visitorOf(v, what));
            case 6 -> both("guardOf " + g + " " + what, () -> x.guardOf(g, what), () -> model.guardOf(g, what));
            case 7 -> both("margin " + g + " " + b, () -> x.margin(g, b, isAgain), () -> model.margin(g, b));
            case 8 -> both("letsIn " + g + " " + b, () -> x.letsIn(g, b), () -> model.letsIn(g, b));
            case 9 -> both("weightBits " + g + " " + badge, () -> x.weightBits(g, badge), () -> model.weightBits(g, badge));
            case 10 -> both("counted " + g + " " + badge, () -> x.counted(g, badge), () -> model.counted(g, badge));
            case 11, 12 -> both("mean " + g + " " + badge, () -> x.mean(g, badge), () -> model.mean(g, badge));
            case 13 -> both("strongest " + g + " " + badge, () -> x.strongest(g, badge), () -> model.strongest(g, badge));
            case 14 -> both("closest " + g, () -> x.closest(g), () -> model.closest(g));
            default -> both("knows " + g + " " + v, () -> x.knows(g, v), () -> model.knows(g, v));
        }
    }

    private void teach(int kind) {
        int g = guard();
        int v = visitor();
        int most = numbers.oneIn(20) ? numbers.below(40) - 4 : 1 + numbers.below(30);
        switch (kind) {
            case 16, 17 -> both("teach " + g + " " + v, () -> x.teach(g, v), () -> model.teach(g, v));
            case 18 -> both("day " + g, () -> x.day(g), () -> model.day(g));
            case 19 -> both("days " + g + " " + most, () -> x.days(g, most), () -> model.days(g, most));
            case 20 -> both("wouldCalm " + g + " " + most, () -> x.wouldCalm(g, most), () -> model.wouldCalm(g, most));
            default -> both("wouldPush " + g + " " + v, () -> x.wouldPush(g, v), () -> model.wouldPush(g, v));
        }
    }

    private void other(int kind) {
        int g = guard();
        int h = guard();
        int v = visitor();
        int b = badges();
        int what = numbers.below(11) - 1;
        boolean isDetail = numbers.oneIn(2);
        switch (kind) {
            case 22 -> both("votes " + b, () -> x.votes(b), () -> model.votes(b));
            case 23 -> both("isVotedIn " + b, () -> x.isVotedIn(b), () -> model.isVotedIn(b));
            case 24 -> both("agree " + g + " " + h, () -> x.agree(g, h), () -> model.agree(g, h));
            case 25 -> both("mistaken", () -> x.mistaken(), () -> model.mistaken());
            case 26 -> both("ranked " + h, () -> x.ranked(h), () -> model.ranked(h));
            case 27 -> both("line " + v, () -> x.line(v), () -> model.line(v));
            case 28 -> both("guardLine " + g, () -> x.guardLine(g), () -> model.guardLine(g));
            case 29 -> both("character " + what, () -> x.character(what), () -> model.character(what));
            case 30 -> both("refusal " + isDetail, () -> x.refusal(isDetail), () -> model.refusal(isDetail));
            case 31 -> both("account " + what, () -> x.account(what), () -> model.account(what));
            case 32 -> both("isWell", () -> x.isWell(), () -> true);
            case 33 -> both("meanBadges", () -> x.meanBadges(), () -> model.meanBadges());
            default -> backOrSave(numbers.below(6));
        }
    }

    private void backOrSave(int kind) {
        switch (kind) {
            case 0 -> both("save", () -> x.save(), () -> model.save());
            case 1 -> both("restore", () -> x.restore(), () -> model.restore());
            default -> both("undo", () -> x.undo(), () -> model.undo());
        }
    }

    private void text() {
        StringBuilder text = new StringBuilder();
        int orders = 1 + numbers.below(6);
        for (int i = 0; i < orders; i++) {
            text.append(i == 0 ? "" : ";").append(ORDERS[numbers.below(ORDERS.length)]);
        }
        if (numbers.oneIn(3)) {
            int at = numbers.below(text.length());
            char sign = SIGNS.charAt(numbers.below(SIGNS.length()));
            switch (numbers.below(3)) {
                case 0 -> text.setCharAt(at, sign);
                case 1 -> text.insert(at, sign);
                default -> text.setLength(at);
            }
        }
        for (int i = 0; i < text.length(); i++) {
            char c = text.charAt(i);
            both("append " + c, () -> x.append(c), () -> model.append(c));
        }
        both("run " + text, () -> x.run(), () -> model.run());
        both("errorPosition", () -> x.errorPosition(), () -> model.errorPosition());
        both("the reason", () -> Check.reasonOf(x), this::reasonOfModel);
        both("account 8", () -> x.account(8), () -> model.account(8));
    }

    private String reasonOfModel() {
        String reason = Check.outcomeOf(() -> model.refusal(false));
        return reason.length() > 1 ? "none" : reason + " " + model.refusal(true);
    }
}
