import java.util.ArrayDeque;
import java.util.ArrayList;
import java.util.Comparator;
import java.util.Deque;
import java.util.List;
import java.util.NoSuchElementException;
import java.util.regex.Matcher;
import java.util.regex.Pattern;

/**
 * The document a second time, in another way: margins in whole 64ths, texts by a pattern, changes by copies of all.
 * It may use the whole Java library, for it is there for the tests alone.
 */
final class Model {
    private static final class Visitor {
        final int badges;
        final boolean isFriend;

        Visitor(int badges, boolean isFriend) {
            this.badges = badges;
            this.isFriend = isFriend;
        }
    }

    private static final class Guard {
        int rate;
        int caution;
        int[] counts = new int[11];
        float[] sums = new float[10];
        int days;
        int pushes;
        int latest;
        int lessons;

        Guard copy() {
            Guard other = new Guard();
            other.rate = rate;
            other.caution = caution;
            other.counts = counts.clone();
            other.sums = sums.clone();
            other.days = days;
            other.pushes = pushes;
            other.latest = latest;
            other.lessons = lessons;
            return other;
        }

        int margin(int badges) {
            int sum = counts[0];
            for (int badge = 0; badge < 10; badge++) {
                sum += counts[badge + 1] * (badges / (1 << badge) % 2);
            }
            return sum;
        }

        boolean pushes(Visitor v) {
            int knowing = v.isFriend ? margin(v.badges) : -margin(v.badges);
            boolean isMistaken = v.isFriend ? knowing <= 0 : knowing < 0;
            return isMistaken || Math.abs(knowing) < caution;
        }

        int teach(Visitor v, int number, Model model) {
            if (!pushes(v)) {
                lessons++;
                return 0;
            }
            int[] next = counts.clone();
            for (int i = 0; i < 11; i++) {
                if (i == 0 || (v.badges & 1 << (i - 1)) != 0) {
                    next[i] += v.isFriend ? rate : -rate;
                    if (Math.abs(next[i]) > 60000) {
                        throw model.refusal(5, number);
                    }
                }
            }
            counts = next;
            lessons++;
            pushes++;
            return 1;
        }

        int day(List<Visitor> visitors, int number, Model model) {
            if (visitors.isEmpty()) {
                throw model.refusal(3, model.guards.size());
            }
            int sum = 0;
            for (Visitor v : visitors) {
                sum += teach(v, number, model);
            }
            days++;
            latest = sum;
            for (int badge = 0; badge < 10; badge++) {
                sums[badge] += counts[badge + 1] / 64.0f;
            }
            return sum;
        }
    }

    private static final class Copy {
        final List<Guard> guards = new ArrayList<>();
        final List<Visitor> visitors;

        Copy(Model model) {
            for (Guard g : model.guards) {
                guards.add(g.copy());
            }
            visitors = new ArrayList<>(model.visitors);
        }
    }

    private static final String ORDER = "(?:[+-](?:" + letters() + ")|x[0-9][0-9]?|g[0-9][0-9]?|t[0-9]:[0-9][0-9]?|d[0-9])";
    private static final Pattern TEXT = Pattern.compile(ORDER + "(?:;" + ORDER + ")*", Pattern.DOTALL);

    List<Guard> guards = new ArrayList<>();
    List<Visitor> visitors = new ArrayList<>();
    private final Deque<Copy> past = new ArrayDeque<>();
    private Copy snapshot = null;
    private String input = "";
    private String line = "";
    private int error = -1;
    private int reason = 0;
    private int detail = 0;

    private static String letters() {
        StringBuilder all = new StringBuilder();
        for (char first = 'a'; first <= 'j'; first++) {
            all.append(first == 'a' ? "" : "|").append(first);
            for (char later = (char) (first + 1); later <= 'j'; later++) {
                all.append(later).append('?');
            }
        }
        return all.toString();
    }

    private UnsupportedOperationException refusal(int why, int what) {
        reason = why;
        detail = what;
        return new UnsupportedOperationException();
    }

    private Guard at(int guard) {
        if (guard < 0 || guard >= guards.size()) {
            throw new IndexOutOfBoundsException();
        }
        return guards.get(guard);
    }

    private Visitor who(int visitor) {
        if (visitor < 0 || visitor >= visitors.size()) {
            throw new IndexOutOfBoundsException();
        }
        return visitors.get(visitor);
    }

    private static void range(int number, int least, int most) {
        if (number < least || number > most) {
            throw new IllegalArgumentException();
        }
    }

    private interface Change {
        int make();
    }

    /** Makes a change on what is; if it throws, all is put back, and nothing is kept. */
    private int change(Change change) {
        Copy before = new Copy(this);
        try {
            int answer = change.make();
            past.addLast(before);
            if (past.size() > 8) {
                past.removeFirst();
            }
            return answer;
        } catch (RuntimeException e) {
            back(before);
            throw e;
        }
    }

    private void back(Copy to) {
        guards = new ArrayList<>();
        for (Guard g : to.guards) {
            guards.add(g.copy());
        }
        visitors = new ArrayList<>(to.visitors);
    }

    private int doGuard(int rate) {
        range(rate, 1, 64);
        if (guards.size() == 4) {
            throw refusal(1, 4);
        }
        Guard g = new Guard();
        g.rate = rate;
        guards.add(g);
        return guards.size() - 1;
    }

    private int doVisitor(int badges, boolean isFriend) {
        range(badges, 1, 1023);
        for (int i = 0; i < visitors.size(); i++) {
            if (visitors.get(i).badges == badges) {
                throw refusal(2, i);
            }
        }
        if (visitors.size() == 12) {
            throw refusal(1, 12);
        }
        visitors.add(new Visitor(badges, isFriend));
        return visitors.size() - 1;
    }

    private int doForget(int visitor) {
        visitors.remove(who(visitor));
        return visitors.size();
    }

    private int doTeach(int guard, int visitor) {
        return at(guard).teach(who(visitor), guard, this);
    }

    private int doDay(int guard) {
        return at(guard).day(visitors, guard, this);
    }

    int guard(int rate) {
        return change(() -> doGuard(rate));
    }

    int rate(int guard, int rate) {
        Guard g = at(guard);
        range(rate, 1, 64);
        int old = g.rate;
        if (old == rate) {
            throw refusal(4, old);
        }
        return change(() -> {
            g.rate = rate;
            return old;
        });
    }

    int caution(int guard, int caution) {
        Guard g = at(guard);
        range(caution, 0, 256);
        int old = g.caution;
        if (old == caution) {
            throw refusal(4, old);
        }
        return change(() -> {
            g.caution = caution;
            return old;
        });
    }

    int visitor(int badges, boolean isFriend) {
        return change(() -> doVisitor(badges, isFriend));
    }

    int forget(int visitor) {
        return change(() -> doForget(visitor));
    }

    private boolean isWrong(Guard g, Visitor v) {
        return g.margin(v.badges) > 0 != v.isFriend;
    }

    private int mistakes(Guard g) {
        return (int) visitors.stream().filter(v -> isWrong(g, v)).count();
    }

    int visitorOf(int visitor, int what) {
        Visitor v = who(visitor);
        range(what, 0, 4);
        int like = (int) visitors.subList(0, visitor).stream().filter(o -> o.isFriend == v.isFriend).count();
        int wrong = (int) guards.stream().filter(g -> isWrong(g, v)).count();
        return new int[] {v.badges, v.isFriend ? 1 : 0, Integer.bitCount(v.badges), wrong, like}[what];
    }

    int guardOf(int guard, int what) {
        Guard g = at(guard);
        range(what, 0, 6);
        return new int[] {g.rate, g.caution, g.days, g.pushes, mistakes(g), g.latest, g.lessons}[what];
    }

    float margin(int guard, int badges) {
        Guard g = at(guard);
        range(badges, 1, 1023);
        return g.margin(badges) / 64.0f;
    }

    boolean letsIn(int guard, int badges) {
        return margin(guard, badges) > 0;
    }

    int counted(int guard, int badge) {
        Guard g = at(guard);
        range(badge, -1, 9);
        return g.counts[badge + 1];
    }

    int weightBits(int guard, int badge) {
        return Float.floatToIntBits(counted(guard, badge) / 64.0f);
    }

    float mean(int guard, int badge) {
        Guard g = at(guard);
        range(badge, 0, 9);
        if (g.days == 0) {
            throw new ArithmeticException();
        }
        return g.sums[badge] / g.days;
    }

    private static int atPlace(List<Integer> sorted, int place) {
        if (place < 0 || place >= sorted.size()) {
            throw new NoSuchElementException();
        }
        return sorted.get(place);
    }

    private static List<Integer> numbers(int many) {
        List<Integer> all = new ArrayList<>();
        for (int i = 0; i < many; i++) {
            all.add(i);
        }
        return all;
    }

    int strongest(int guard, int place) {
        Guard g = at(guard);
        List<Integer> badges = numbers(10);
        badges.sort(Comparator.comparingInt((Integer badge) -> -g.counts[badge + 1]));
        return atPlace(badges, place);
    }

    int closest(int guard) {
        Guard g = at(guard);
        List<Integer> all = numbers(visitors.size());
        all.sort(Comparator.comparingInt((Integer i) -> knowing(g, visitors.get(i))));
        return atPlace(all, 0);
    }

    private static int knowing(Guard g, Visitor v) {
        return v.isFriend ? g.margin(v.badges) : -g.margin(v.badges);
    }

    float knows(int guard, int visitor) {
        return knowing(at(guard), who(visitor)) / 64.0f;
    }

    int teach(int guard, int visitor) {
        return change(() -> doTeach(guard, visitor));
    }

    int day(int guard) {
        return change(() -> doDay(guard));
    }

    int days(int guard, int most) {
        at(guard);
        range(most, 1, 30);
        return change(() -> {
            int gone = 1;
            while (doDay(guard) > 0 && gone < most) {
                gone++;
            }
            return gone;
        });
    }

    int wouldCalm(int guard, int most) {
        Guard g = at(guard).copy();
        range(most, 1, 30);
        int oldReason = reason;
        int oldDetail = detail;
        try {
            for (int gone = 1; gone <= most; gone++) {
                if (g.day(visitors, guard, this) == 0) {
                    return gone;
                }
            }
        } catch (UnsupportedOperationException e) {
            reason = oldReason;
            detail = oldDetail;
        }
        throw new NoSuchElementException();
    }

    boolean wouldPush(int guard, int visitor) {
        return at(guard).pushes(who(visitor));
    }

    int votes(int badges) {
        range(badges, 1, 1023);
        return (int) guards.stream().filter(g -> g.margin(badges) > 0).count();
    }

    boolean isVotedIn(int badges) {
        return votes(badges) * 2 > guards.size();
    }

    int agree(int one, int other) {
        Guard g = at(one);
        Guard h = at(other);
        return (int) visitors.stream().filter(v -> isWrong(g, v) == isWrong(h, v)).count();
    }

    int mistaken() {
        return (int) visitors.stream().filter(v -> isVotedIn(v.badges) != v.isFriend).count();
    }

    int ranked(int place) {
        List<Integer> all = numbers(guards.size());
        all.sort(Comparator.comparingInt((Integer g) -> mistakes(guards.get(g)))
            .thenComparingInt(g -> guards.get(g).pushes));
        return atPlace(all, place);
    }

    int line(int visitor) {
        Visitor v = who(visitor);
        StringBuilder all = new StringBuilder(v.isFriend ? "+" : "-");
        for (char c = 'a'; c <= 'j'; c++) {
            all.append((v.badges & 1 << (c - 'a')) == 0 ? "" : String.valueOf(c));
        }
        line = all.toString();
        return line.length();
    }

    int guardLine(int guard) {
        StringBuilder all = new StringBuilder();
        for (int count : at(guard).counts) {
            all.append(' ').append(count);
        }
        line = all.substring(1);
        return line.length();
    }

    char character(int index) {
        if (index < 0 || index >= line.length()) {
            throw new IndexOutOfBoundsException();
        }
        return line.charAt(index);
    }

    int append(char c) {
        if (input.length() == 60) {
            throw new IllegalStateException();
        }
        input += c;
        return input.length();
    }

    /** Whether a text could still be continued to one without an error. */
    private static boolean isBeginning(String text) {
        Matcher matcher = TEXT.matcher(text);
        return matcher.matches() || matcher.hitEnd();
    }

    static int errorOf(String text) {
        if (TEXT.matcher(text).matches()) {
            return -1;
        }
        for (int i = 0; i < text.length(); i++) {
            if (!isBeginning(text.substring(0, i + 1))) {
                return i;
            }
        }
        return text.length();
    }

    int run() {
        String text = input;
        input = "";
        error = errorOf(text);
        if (error >= 0) {
            throw new IllegalArgumentException();
        }
        return change(() -> {
            String[] orders = text.split(";");
            for (String order : orders) {
                carryOut(order);
            }
            return orders.length;
        });
    }

    private void carryOut(String order) {
        String rest = order.substring(1);
        try {
            switch (order.charAt(0)) {
                case 'x' -> doForget(Integer.parseInt(rest));
                case 'g' -> doGuard(Integer.parseInt(rest));
                case 'd' -> doDay(Integer.parseInt(rest));
                case 't' -> doTeach(Integer.parseInt(rest.substring(0, 1)), Integer.parseInt(rest.substring(2)));
                default -> doVisitor(rest.chars().map(c -> 1 << (c - 'a')).sum(), order.charAt(0) == '+');
            }
        } catch (IndexOutOfBoundsException e) {
            throw new IllegalArgumentException();
        }
    }

    int errorPosition() {
        return error;
    }

    int refusal(boolean isDetail) {
        if (reason == 0) {
            throw new NoSuchElementException();
        }
        return isDetail ? detail : reason;
    }

    int account(int what) {
        range(what, 0, 8);
        int friends = (int) visitors.stream().filter(v -> v.isFriend).count();
        return new int[] {guards.size(), visitors.size(), friends, visitors.size() - friends,
            guards.stream().mapToInt(g -> g.days).sum(), guards.stream().mapToInt(g -> g.pushes).sum(),
            guards.stream().mapToInt(this::mistakes).sum(), input.length(), past.size()}[what];
    }

    double meanBadges() {
        if (visitors.isEmpty()) {
            throw new ArithmeticException();
        }
        return (double) visitors.stream().mapToInt(v -> Integer.bitCount(v.badges)).sum() / visitors.size();
    }

    int undo() {
        if (past.isEmpty()) {
            throw new IllegalStateException();
        }
        back(past.removeLast());
        return past.size();
    }

    int save() {
        snapshot = new Copy(this);
        return visitors.size();
    }

    int restore() {
        if (snapshot == null) {
            throw new IllegalStateException();
        }
        back(snapshot);
        past.clear();
        return visitors.size();
    }
}
