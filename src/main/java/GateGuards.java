import java.util.NoSuchElementException;

/** Guards at a gate who learn, by pushes on their weights, which sets of badges friends wear, and which foes. */
public final class GateGuards {
    private static final int BADGES = 10;
    private static final int MOST_SET = (1 << BADGES) - 1;
    private static final int MOST_GUARDS = 4;
    private static final int MOST_VISITORS = 12;
    private static final int MOST_RATE = 64;
    private static final int MOST_CAUTION = 256;
    private static final int MOST_COUNTED = 60000;
    private static final int MOST_DAYS = 30;
    private static final int MOST_INPUT = 60;
    private static final int MOST_KEPT = 8;

    private static final int FULL = 1;
    private static final int SAME_BADGES = 2;
    private static final int NO_VISITORS = 3;
    private static final int SO_ALREADY = 4;
    private static final int PUSHED_TOO_OFTEN = 5;

    /** What an order of a text, a lesson or days on trial answer in place of a number. */
    private static final int DONE = 0;
    private static final int REFUSED = -1;
    private static final int IMPOSSIBLE = -2;

    private final Gate now = new Gate();
    private final Gate beforeRun = new Gate();
    private final Gate snapshot = new Gate();
    private boolean hasSnapshot = false;
    private final Gate[] past = new Gate[MOST_KEPT];
    private int firstKept = 0;
    private int kept = 0;
    /** This guard has lessons and days first, so that a refusal leaves the guard at the gate as it was. */
    private final Guard trial = new Guard();
    private final Text input = new Text();
    private final StringBuilder written = new StringBuilder();
    private int error = -1;
    private int reason = 0;
    private int detail = 0;

    /** Creates a gate without guards and visitors. */
    public GateGuards() {
        for (int i = 0; i < MOST_KEPT; i++) {
            past[i] = new Gate();
        }
    }

    // Guards and visitors

    /** Tells a guard with this rate, and returns the number. */
    public int guard(int rate) throws IllegalArgumentException, UnsupportedOperationException {
        requireRate(rate);
        if (refusesGuard()) {
            throw new UnsupportedOperationException("there are 4 guards");
        }
        keep(now);
        return now.addGuard(rate);
    }

    /** Sets the rate of a guard, and returns the rate before. */
    public int rate(int guard, int rate)
            throws IndexOutOfBoundsException, IllegalArgumentException, UnsupportedOperationException {
        requireGuard(guard);
        requireRate(rate);
        int old = now.guards[guard].rate;
        if (old == rate) {
            refuse(SO_ALREADY, rate);
            throw new UnsupportedOperationException("the rate is so already");
        }
        keep(now);
        now.guards[guard].rate = rate;
        return old;
    }

    /** Sets the caution of a guard, and returns the caution before. */
    public int caution(int guard, int caution)
            throws IndexOutOfBoundsException, IllegalArgumentException, UnsupportedOperationException {
        requireGuard(guard);
        if (caution < 0 || caution > MOST_CAUTION) {
            throw new IllegalArgumentException("the caution is out of range");
        }
        int old = now.guards[guard].caution;
        if (old == caution) {
            refuse(SO_ALREADY, caution);
            throw new UnsupportedOperationException("the caution is so already");
        }
        keep(now);
        now.guards[guard].caution = caution;
        return old;
    }

    /** Tells a visitor, and returns the number. */
    public int visitor(int badges, boolean isFriend) throws IllegalArgumentException, UnsupportedOperationException {
        requireSet(badges);
        if (refusesVisitor(badges)) {
            throw new UnsupportedOperationException("the visitor is known, or there are 12");
        }
        keep(now);
        return now.addVisitor(badges, isFriend);
    }

    /** Forgets a visitor, and returns how many there are then. */
    public int forget(int visitor) throws IndexOutOfBoundsException {
        requireVisitor(visitor);
        keep(now);
        return now.removeVisitor(visitor);
    }

    /** Returns a number of a visitor. */
    public int visitorOf(int visitor, int what) throws IndexOutOfBoundsException, IllegalArgumentException {
        requireVisitor(visitor);
        switch (what) {
            case 0:
                return now.sets[visitor];
            case 1:
                return now.friends[visitor] ? 1 : 0;
            case 2:
                return Integer.bitCount(now.sets[visitor]);
            case 3:
                return now.guardsMistakenAbout(visitor);
            case 4:
                return now.placeAmongLike(visitor);
            default:
                throw new IllegalArgumentException("a visitor has no such number");
        }
    }

    /** Returns a number of a guard. */
    public int guardOf(int guard, int what) throws IndexOutOfBoundsException, IllegalArgumentException {
        requireGuard(guard);
        Guard asked = now.guards[guard];
        switch (what) {
            case 0:
                return asked.rate;
            case 1:
                return asked.caution;
            case 2:
                return asked.days;
            case 3:
                return asked.pushes;
            case 4:
                return now.mistakesOf(guard);
            case 5:
                return asked.latestPushes;
            case 6:
                return asked.lessons;
            default:
                throw new IllegalArgumentException("a guard has no such number");
        }
    }

    // Margins and weights

    /** Returns the margin of a set of badges, by floats or, again, by counted pushes. */
    public float margin(int guard, int badges, boolean isAgain)
            throws IndexOutOfBoundsException, IllegalArgumentException {
        requireGuard(guard);
        requireSet(badges);
        return isAgain ? now.guards[guard].countedMarginOf(badges) : now.guards[guard].marginOf(badges);
    }

    /** Tells whether a guard lets a set of badges in. */
    public boolean letsIn(int guard, int badges) throws IndexOutOfBoundsException, IllegalArgumentException {
        requireGuard(guard);
        requireSet(badges);
        return now.guards[guard].admits(badges);
    }

    /** Returns the bits of the weight of a badge, or, for -1, of the bias. */
    public int weightBits(int guard, int badge) throws IndexOutOfBoundsException, IllegalArgumentException {
        requireGuard(guard);
        requireBadge(badge, -1);
        return bitsOf(now.guards[guard].weights[badge + 1]);
    }

    /** Returns the pushes counted for a badge, or, for -1, for the bias, in 64ths. */
    public int counted(int guard, int badge) throws IndexOutOfBoundsException, IllegalArgumentException {
        requireGuard(guard);
        requireBadge(badge, -1);
        return now.guards[guard].counts[badge + 1];
    }

    /** Returns the mean weight of a badge over the days of a guard. */
    public float mean(int guard, int badge)
            throws IndexOutOfBoundsException, IllegalArgumentException, ArithmeticException {
        requireGuard(guard);
        requireBadge(badge, 0);
        int days = now.guards[guard].days;
        if (days == 0) {
            throw new ArithmeticException("the guard had no days");
        }
        return now.guards[guard].sums[badge] / (float) days;
    }

    /** Returns the badge at a place, the greatest weight first, of several the lowest badge. */
    public int strongest(int guard, int place) throws IndexOutOfBoundsException, NoSuchElementException {
        requireGuard(guard);
        for (int badge = 0; badge < BADGES; badge++) {
            if (now.guards[guard].strongerThan(badge) == place) {
                return badge;
            }
        }
        throw new NoSuchElementException("there is no such place");
    }

    /** Returns the visitor whom a guard knows least well, of several the lowest. */
    public int closest(int guard) throws IndexOutOfBoundsException, NoSuchElementException {
        requireGuard(guard);
        if (now.visitorCount == 0) {
            throw new NoSuchElementException("there are no visitors");
        }
        int least = 0;
        for (int i = 1; i < now.visitorCount; i++) {
            if (now.knowing(guard, i) < now.knowing(guard, least)) {
                least = i;
            }
        }
        return least;
    }

    /** Returns how well a guard knows a visitor. */
    public float knows(int guard, int visitor) throws IndexOutOfBoundsException {
        requireGuard(guard);
        requireVisitor(visitor);
        return now.knowing(guard, visitor);
    }

    // Teaching and days

    /** Teaches a guard a visitor, and returns 1 if the guard was pushed, and 0 otherwise. */
    public int teach(int guard, int visitor) throws IndexOutOfBoundsException, UnsupportedOperationException {
        requireGuard(guard);
        requireVisitor(visitor);
        int pushed = tryLesson(guard, visitor);
        if (pushed == REFUSED) {
            throw new UnsupportedOperationException("the guard has been pushed too often");
        }
        keep(now);
        now.guards[guard].copyFrom(trial);
        return pushed;
    }

    /** Lets a day go by for a guard, and returns how many pushes there were. */
    public int day(int guard) throws IndexOutOfBoundsException, UnsupportedOperationException {
        requireGuard(guard);
        if (tryDays(guard, 1) == REFUSED) {
            throw new UnsupportedOperationException("no visitors, or pushed too often");
        }
        keep(now);
        now.guards[guard].copyFrom(trial);
        return trial.latestPushes;
    }

    /** Lets days go by for a guard until one is calm, or so many have gone by, and returns how many did. */
    public int days(int guard, int most)
            throws IndexOutOfBoundsException, IllegalArgumentException, UnsupportedOperationException {
        requireGuard(guard);
        requireDays(most);
        int gone = tryDays(guard, most);
        if (gone == REFUSED) {
            throw new UnsupportedOperationException("no visitors, or pushed too often");
        }
        keep(now);
        now.guards[guard].copyFrom(trial);
        return gone;
    }

    /** Returns on which day from now on, counted from 1, a guard would first be calm. */
    public int wouldCalm(int guard, int most)
            throws IndexOutOfBoundsException, IllegalArgumentException, NoSuchElementException {
        requireGuard(guard);
        requireDays(most);
        if (now.visitorCount == 0) {
            throw new NoSuchElementException("there are no visitors");
        }
        trial.copyFrom(now.guards[guard]);
        int gone = now.liveDays(trial, most);
        if (gone == REFUSED || trial.latestPushes != 0) {
            throw new NoSuchElementException("the guard would not be calm until then");
        }
        return gone;
    }

    /** Tells whether a guard would be pushed if a visitor was taught. */
    public boolean wouldPush(int guard, int visitor) throws IndexOutOfBoundsException {
        requireGuard(guard);
        requireVisitor(visitor);
        return now.guards[guard].needsPush(now.guards[guard].marginOf(now.sets[visitor]), now.friends[visitor]);
    }

    // Votes

    /** Returns how many guards let a set of badges in. */
    public int votes(int badges) throws IllegalArgumentException {
        requireSet(badges);
        return now.votesFor(badges);
    }

    /** Tells whether a set of badges is let in by vote. */
    public boolean isVotedIn(int badges) throws IllegalArgumentException {
        requireSet(badges);
        return now.admitsByVote(badges);
    }

    /** Returns about how many visitors two guards agree. */
    public int agree(int one, int other) throws IndexOutOfBoundsException {
        requireGuard(one);
        requireGuard(other);
        int same = 0;
        for (int i = 0; i < now.visitorCount; i++) {
            if (now.guards[one].admits(now.sets[i]) == now.guards[other].admits(now.sets[i])) {
                same++;
            }
        }
        return same;
    }

    /** Returns about how many visitors the vote is mistaken. */
    public int mistaken() {
        int wrong = 0;
        for (int i = 0; i < now.visitorCount; i++) {
            if (now.admitsByVote(now.sets[i]) != now.friends[i]) {
                wrong++;
            }
        }
        return wrong;
    }

    /** Returns the guard at a place: the fewest mistakes first, then the fewer pushes, then the lowest. */
    public int ranked(int place) throws NoSuchElementException {
        for (int guard = 0; guard < now.guardCount; guard++) {
            if (now.guardsAheadOf(guard) == place) {
                return guard;
            }
        }
        throw new NoSuchElementException("there is no such place");
    }

    // Lines, texts, accounts, undo and snapshot

    /** Writes the line of a visitor, and returns its length. */
    public int line(int visitor) throws IndexOutOfBoundsException {
        requireVisitor(visitor);
        written.setLength(0);
        written.append(now.friends[visitor] ? '+' : '-');
        for (int badge = 0; badge < BADGES; badge++) {
            if ((now.sets[visitor] >> badge & 1) == 1) {
                written.append((char) ('a' + badge));
            }
        }
        return written.length();
    }

    /** Writes the line of a guard, and returns its length. */
    public int guardLine(int guard) throws IndexOutOfBoundsException {
        requireGuard(guard);
        written.setLength(0);
        for (int i = 0; i <= BADGES; i++) {
            if (i > 0) {
                written.append(' ');
            }
            written.append(now.guards[guard].counts[i]);
        }
        return written.length();
    }

    /** Returns a character of the line. */
    public char character(int index) throws IndexOutOfBoundsException {
        if (index < 0 || index >= written.length()) {
            throw new IndexOutOfBoundsException("the line has no such index");
        }
        return written.charAt(index);
    }

    /** Appends a character to the input, and returns how many it has then. */
    public int append(char c) throws IllegalStateException {
        if (input.length >= MOST_INPUT) {
            throw new IllegalStateException("the input contains 60 characters");
        }
        input.signs[input.length] = c;
        input.length++;
        return input.length;
    }

    /** Carries out the text in the input, which is empty afterwards, and returns the number of orders. */
    public int run() throws IllegalArgumentException, UnsupportedOperationException {
        boolean isText = input.read();
        error = isText ? -1 : input.at;
        input.length = 0;
        if (!isText) {
            throw new IllegalArgumentException("the text has an error");
        }
        beforeRun.copyFrom(now);
        int outcome = DONE;
        for (int i = 0; i < input.orders && outcome == DONE; i++) {
            outcome = carryOut(input.kinds[i], input.firsts[i], input.seconds[i]);
        }
        if (outcome != DONE) {
            now.copyFrom(beforeRun);
        }
        if (outcome == IMPOSSIBLE) {
            throw new IllegalArgumentException("an order tells what is not there or out of range");
        }
        if (outcome == REFUSED) {
            throw new UnsupportedOperationException("an order is refused");
        }
        keep(beforeRun);
        return input.orders;
    }

    /** Returns the error position of the text of the latest run, or -1. */
    public int errorPosition() {
        return error;
    }

    /** Returns the reason of the latest refusal, or its detail. */
    public int refusal(boolean isDetail) throws NoSuchElementException {
        if (reason == 0) {
            throw new NoSuchElementException("nothing was refused");
        }
        return isDetail ? detail : reason;
    }

    /** Returns an account. */
    public int account(int what) throws IllegalArgumentException {
        switch (what) {
            case 0:
                return now.guardCount;
            case 1:
                return now.visitorCount;
            case 2:
                return now.countOf(true);
            case 3:
                return now.countOf(false);
            case 4:
                return now.daysOfAll();
            case 5:
                return now.pushesOfAll();
            case 6:
                return now.mistakesOfAll();
            case 7:
                return input.length;
            case 8:
                return kept;
            default:
                throw new IllegalArgumentException("there is no such account");
        }
    }

    /** Tells, by a second way, whether all is well. */
    public boolean isWell() {
        if (now.countOf(true) + now.countOf(false) != now.visitorCount) {
            return false;
        }
        for (int guard = 0; guard < now.guardCount; guard++) {
            if (!now.guards[guard].isAsCounted() || !now.marginsMatch(guard)) {
                return false;
            }
        }
        return true;
    }

    /** Returns the mean number of badges of a visitor. */
    public double meanBadges() throws ArithmeticException {
        if (now.visitorCount == 0) {
            throw new ArithmeticException("there are no visitors");
        }
        int all = 0;
        for (int i = 0; i < now.visitorCount; i++) {
            all += Integer.bitCount(now.sets[i]);
        }
        return (double) all / (double) now.visitorCount;
    }

    /** Undoes the latest change, and returns how many can still be undone. */
    public int undo() throws IllegalStateException {
        if (kept == 0) {
            throw new IllegalStateException("no change can be undone");
        }
        kept--;
        now.copyFrom(past[(firstKept + kept) % MOST_KEPT]);
        return kept;
    }

    /** Takes a snapshot, and returns how many visitors there are. */
    public int save() {
        snapshot.copyFrom(now);
        hasSnapshot = true;
        return now.visitorCount;
    }

    /** Goes back to the snapshot, which stays, and returns how many visitors there are. */
    public int restore() throws IllegalStateException {
        if (!hasSnapshot) {
            throw new IllegalStateException("there is no snapshot");
        }
        now.copyFrom(snapshot);
        kept = 0;
        return now.visitorCount;
    }

    // What the methods of the face require

    private void requireGuard(int guard) {
        if (!now.hasGuard(guard)) {
            throw new IndexOutOfBoundsException("there is no such guard");
        }
    }

    private void requireVisitor(int visitor) {
        if (!now.hasVisitor(visitor)) {
            throw new IndexOutOfBoundsException("there is no such visitor");
        }
    }

    private static void requireRate(int rate) {
        if (!isRate(rate)) {
            throw new IllegalArgumentException("the rate is out of range");
        }
    }

    private static void requireSet(int badges) {
        if (badges < 1 || badges > MOST_SET) {
            throw new IllegalArgumentException("there is no such set of badges");
        }
    }

    private static void requireBadge(int badge, int least) {
        if (badge < least || badge >= BADGES) {
            throw new IllegalArgumentException("there is no such badge");
        }
    }

    private static void requireDays(int most) {
        if (most < 1 || most > MOST_DAYS) {
            throw new IllegalArgumentException("the number of days is out of range");
        }
    }

    private static boolean isRate(int rate) {
        return rate >= 1 && rate <= MOST_RATE;
    }

    // What is refused

    private void refuse(int newReason, int newDetail) {
        reason = newReason;
        detail = newDetail;
    }

    private boolean refusesGuard() {
        if (now.guardCount < MOST_GUARDS) {
            return false;
        }
        refuse(FULL, MOST_GUARDS);
        return true;
    }

    private boolean refusesVisitor(int badges) {
        int same = now.visitorWith(badges);
        if (same >= 0) {
            refuse(SAME_BADGES, same);
            return true;
        }
        if (now.visitorCount < MOST_VISITORS) {
            return false;
        }
        refuse(FULL, MOST_VISITORS);
        return true;
    }

    /** Teaches the trial guard in place of a guard; returns 1 for a push, 0 without one, or REFUSED. */
    private int tryLesson(int guard, int visitor) {
        trial.copyFrom(now.guards[guard]);
        int pushed = trial.learn(now.sets[visitor], now.friends[visitor]);
        if (pushed == REFUSED) {
            refuse(PUSHED_TOO_OFTEN, guard);
        }
        return pushed;
    }

    /** Lets days go by for the trial guard in place of a guard; returns how many did, or REFUSED. */
    private int tryDays(int guard, int most) {
        if (now.visitorCount == 0) {
            refuse(NO_VISITORS, now.guardCount);
            return REFUSED;
        }
        trial.copyFrom(now.guards[guard]);
        int gone = now.liveDays(trial, most);
        if (gone == REFUSED) {
            refuse(PUSHED_TOO_OFTEN, guard);
        }
        return gone;
    }

    // What can be undone

    /** Keeps the gate as it was before a change; the oldest of 8 makes room for it. */
    private void keep(Gate old) {
        if (kept == MOST_KEPT) {
            firstKept = (firstKept + 1) % MOST_KEPT;
            kept--;
        }
        past[(firstKept + kept) % MOST_KEPT].copyFrom(old);
        kept++;
    }

    // Orders

    private int carryOut(char kind, int first, int second) {
        if (kind == 'g') {
            return orderGuard(first);
        }
        if (kind == 'x') {
            return orderForgetting(first);
        }
        if (kind == 't') {
            return orderLesson(first, second);
        }
        if (kind == 'd') {
            return orderDay(first);
        }
        return orderVisitor(first, kind == '+');
    }

    private int orderGuard(int rate) {
        if (!isRate(rate)) {
            return IMPOSSIBLE;
        }
        if (refusesGuard()) {
            return REFUSED;
        }
        now.addGuard(rate);
        return DONE;
    }

    private int orderVisitor(int badges, boolean isFriend) {
        if (refusesVisitor(badges)) {
            return REFUSED;
        }
        now.addVisitor(badges, isFriend);
        return DONE;
    }

    private int orderForgetting(int visitor) {
        if (!now.hasVisitor(visitor)) {
            return IMPOSSIBLE;
        }
        now.removeVisitor(visitor);
        return DONE;
    }

    private int orderLesson(int guard, int visitor) {
        if (!now.hasGuard(guard) || !now.hasVisitor(visitor)) {
            return IMPOSSIBLE;
        }
        if (tryLesson(guard, visitor) == REFUSED) {
            return REFUSED;
        }
        now.guards[guard].copyFrom(trial);
        return DONE;
    }

    private int orderDay(int guard) {
        if (!now.hasGuard(guard)) {
            return IMPOSSIBLE;
        }
        if (tryDays(guard, 1) == REFUSED) {
            return REFUSED;
        }
        now.guards[guard].copyFrom(trial);
        return DONE;
    }

    /** Float.floatToIntBits is no part of the language kept to; so the bits are reckoned from the number. */
    private static int bitsOf(float number) {
        if (number == 0.0f) {
            return 0;
        }
        int sign = number < 0.0f ? 1 << 31 : 0;
        float rest = number < 0.0f ? -number : number;
        int exponent = 127;
        for (int i = 0; i < 128 && rest >= 2.0f; i++) {
            rest = rest / 2.0f;
            exponent++;
        }
        for (int i = 0; i < 128 && rest < 1.0f; i++) {
            rest = rest * 2.0f;
            exponent--;
        }
        return sign | exponent << 23 | (int) ((rest - 1.0f) * 8388608.0f);
    }

    /** One guard; the bias stands ahead of the badges, at index 0 of weights and counts. */
    private static final class Guard {
        int rate = 0;
        int caution = 0;
        final float[] weights = new float[BADGES + 1];
        final int[] counts = new int[BADGES + 1];
        final float[] sums = new float[BADGES];
        int days = 0;
        int pushes = 0;
        int latestPushes = 0;
        int lessons = 0;

        void begin(int newRate) {
            rate = newRate;
            caution = 0;
            days = 0;
            pushes = 0;
            latestPushes = 0;
            lessons = 0;
            for (int i = 0; i <= BADGES; i++) {
                weights[i] = 0.0f;
                counts[i] = 0;
            }
            for (int i = 0; i < BADGES; i++) {
                sums[i] = 0.0f;
            }
        }

        void copyFrom(Guard other) {
            rate = other.rate;
            caution = other.caution;
            days = other.days;
            pushes = other.pushes;
            latestPushes = other.latestPushes;
            lessons = other.lessons;
            System.arraycopy(other.weights, 0, weights, 0, BADGES + 1);
            System.arraycopy(other.counts, 0, counts, 0, BADGES + 1);
            System.arraycopy(other.sums, 0, sums, 0, BADGES);
        }

        float marginOf(int badges) {
            float sum = weights[0];
            for (int badge = 0; badge < BADGES; badge++) {
                if ((badges >> badge & 1) == 1) {
                    sum = sum + weights[badge + 1];
                }
            }
            return sum;
        }

        float countedMarginOf(int badges) {
            int sum = counts[0];
            for (int badge = 0; badge < BADGES; badge++) {
                if ((badges >> badge & 1) == 1) {
                    sum += counts[badge + 1];
                }
            }
            return (float) sum / 64.0f;
        }

        boolean admits(int badges) {
            return marginOf(badges) > 0.0f;
        }

        /** Whether a lesson pushes when the margin of the visitor is so. */
        boolean needsPush(float margin, boolean isFriend) {
            if ((margin > 0.0f) != isFriend) {
                return true;
            }
            float size = margin < 0.0f ? 0.0f - margin : margin;
            return size < (float) caution / 64.0f;
        }

        /** Whether a push would leave each counted number within its bounds. */
        private boolean hasRoom(int badges, boolean isFriend) {
            int touched = badges << 1 | 1;
            for (int i = 0; i <= BADGES; i++) {
                int next = isFriend ? counts[i] + rate : counts[i] - rate;
                if ((touched >> i & 1) == 1 && (next > MOST_COUNTED || next < -MOST_COUNTED)) {
                    return false;
                }
            }
            return true;
        }

        /** Has a lesson; returns 1 for a push, 0 without one, or REFUSED, and then nothing has changed. */
        int learn(int badges, boolean isFriend) {
            if (!needsPush(marginOf(badges), isFriend)) {
                lessons++;
                return 0;
            }
            if (!hasRoom(badges, isFriend)) {
                return REFUSED;
            }
            lessons++;
            push(badges, isFriend);
            return 1;
        }

        private void push(int badges, boolean isFriend) {
            float step = (float) rate / 64.0f;
            int touched = badges << 1 | 1;
            for (int i = 0; i <= BADGES; i++) {
                if ((touched >> i & 1) == 1) {
                    weights[i] = isFriend ? weights[i] + step : weights[i] - step;
                    counts[i] += isFriend ? rate : -rate;
                }
            }
            pushes++;
        }

        void endDay(int pushesOfDay) {
            days++;
            latestPushes = pushesOfDay;
            for (int badge = 0; badge < BADGES; badge++) {
                sums[badge] = sums[badge] + weights[badge + 1];
            }
        }

        /** How many badges stand ahead of a badge when the greatest weight comes first. */
        int strongerThan(int badge) {
            float weight = weights[badge + 1];
            int ahead = 0;
            for (int other = 0; other < BADGES; other++) {
                float rival = weights[other + 1];
                if (rival > weight || rival == weight && other < badge) {
                    ahead++;
                }
            }
            return ahead;
        }

        boolean isAsCounted() {
            for (int i = 0; i <= BADGES; i++) {
                if (weights[i] != (float) counts[i] / 64.0f) {
                    return false;
                }
            }
            return true;
        }
    }

    /** What changes can change: the guards and the visitors. */
    private static final class Gate {
        final Guard[] guards = new Guard[MOST_GUARDS];
        int guardCount = 0;
        final int[] sets = new int[MOST_VISITORS];
        final boolean[] friends = new boolean[MOST_VISITORS];
        int visitorCount = 0;

        Gate() {
            for (int i = 0; i < MOST_GUARDS; i++) {
                guards[i] = new Guard();
            }
        }

        void copyFrom(Gate other) {
            guardCount = other.guardCount;
            for (int i = 0; i < guardCount; i++) {
                guards[i].copyFrom(other.guards[i]);
            }
            visitorCount = other.visitorCount;
            for (int i = 0; i < visitorCount; i++) {
                sets[i] = other.sets[i];
                friends[i] = other.friends[i];
            }
        }

        boolean hasGuard(int guard) {
            return guard >= 0 && guard < guardCount;
        }

        boolean hasVisitor(int visitor) {
            return visitor >= 0 && visitor < visitorCount;
        }

        /** Adds a guard where there is room for one, and returns the number. */
        int addGuard(int rate) {
            guards[guardCount].begin(rate);
            guardCount++;
            return guardCount - 1;
        }

        /** Adds a visitor where there is room for one, and returns the number. */
        int addVisitor(int badges, boolean isFriend) {
            sets[visitorCount] = badges;
            friends[visitorCount] = isFriend;
            visitorCount++;
            return visitorCount - 1;
        }

        int removeVisitor(int visitor) {
            visitorCount--;
            for (int i = visitor; i < visitorCount; i++) {
                sets[i] = sets[i + 1];
                friends[i] = friends[i + 1];
            }
            return visitorCount;
        }

        /** The visitor with this set of badges, or -1. */
        int visitorWith(int badges) {
            for (int i = 0; i < visitorCount; i++) {
                if (sets[i] == badges) {
                    return i;
                }
            }
            return -1;
        }

        int placeAmongLike(int visitor) {
            int place = 0;
            for (int i = 0; i < visitor; i++) {
                if (friends[i] == friends[visitor]) {
                    place++;
                }
            }
            return place;
        }

        int countOf(boolean isFriend) {
            int count = 0;
            for (int i = 0; i < visitorCount; i++) {
                if (friends[i] == isFriend) {
                    count++;
                }
            }
            return count;
        }

        boolean isMistaken(int guard, int visitor) {
            return guards[guard].admits(sets[visitor]) != friends[visitor];
        }

        int guardsMistakenAbout(int visitor) {
            int count = 0;
            for (int guard = 0; guard < guardCount; guard++) {
                if (isMistaken(guard, visitor)) {
                    count++;
                }
            }
            return count;
        }

        int mistakesOf(int guard) {
            int count = 0;
            for (int i = 0; i < visitorCount; i++) {
                if (isMistaken(guard, i)) {
                    count++;
                }
            }
            return count;
        }

        int mistakesOfAll() {
            int all = 0;
            for (int guard = 0; guard < guardCount; guard++) {
                all += mistakesOf(guard);
            }
            return all;
        }

        int daysOfAll() {
            int all = 0;
            for (int guard = 0; guard < guardCount; guard++) {
                all += guards[guard].days;
            }
            return all;
        }

        int pushesOfAll() {
            int all = 0;
            for (int guard = 0; guard < guardCount; guard++) {
                all += guards[guard].pushes;
            }
            return all;
        }

        float knowing(int guard, int visitor) {
            float margin = guards[guard].marginOf(sets[visitor]);
            return friends[visitor] ? margin : 0.0f - margin;
        }

        int votesFor(int badges) {
            int count = 0;
            for (int guard = 0; guard < guardCount; guard++) {
                if (guards[guard].admits(badges)) {
                    count++;
                }
            }
            return count;
        }

        boolean admitsByVote(int badges) {
            int forIt = votesFor(badges);
            return forIt > guardCount - forIt;
        }

        int guardsAheadOf(int guard) {
            int count = 0;
            for (int other = 0; other < guardCount; other++) {
                if (isAhead(other, guard)) {
                    count++;
                }
            }
            return count;
        }

        private boolean isAhead(int one, int other) {
            int difference = mistakesOf(one) - mistakesOf(other);
            if (difference == 0) {
                difference = guards[one].pushes - guards[other].pushes;
            }
            return difference < 0 || difference == 0 && one < other;
        }

        boolean marginsMatch(int guard) {
            for (int i = 0; i < visitorCount; i++) {
                if (guards[guard].marginOf(sets[i]) != guards[guard].countedMarginOf(sets[i])) {
                    return false;
                }
            }
            return true;
        }

        /** Lets days go by until one is calm, or most have; returns how many did, or REFUSED amid a day. */
        int liveDays(Guard guard, int most) {
            for (int gone = 1; gone <= most; gone++) {
                int pushesOfDay = 0;
                for (int i = 0; i < visitorCount; i++) {
                    int pushed = guard.learn(sets[i], friends[i]);
                    if (pushed == REFUSED) {
                        return REFUSED;
                    }
                    pushesOfDay += pushed;
                }
                guard.endDay(pushesOfDay);
                if (pushesOfDay == 0) {
                    return gone;
                }
            }
            return most;
        }
    }

    /** The input, and the orders that are read from it. */
    private static final class Text {
        private static final int NONE = -1;

        final char[] signs = new char[MOST_INPUT];
        int length = 0;
        final char[] kinds = new char[MOST_INPUT];
        final int[] firsts = new int[MOST_INPUT];
        final int[] seconds = new int[MOST_INPUT];
        int orders = 0;
        /** Where reading stands; behind a text with an error this is the error position. */
        int at = 0;

        /** Reads the orders, and tells whether the text has no error. */
        boolean read() {
            at = 0;
            orders = 0;
            for (int i = 0; i < MOST_INPUT; i++) {
                if (!readOrder()) {
                    return false;
                }
                if (at == length) {
                    return true;
                }
                if (sign() != ';') {
                    return false;
                }
                at++;
            }
            return false;
        }

        /** The character that reading stands at; behind the end one that no text has. */
        private char sign() {
            return at < length ? signs[at] : (char) 0;
        }

        private boolean readOrder() {
            char kind = sign();
            int first = NONE;
            int second = 0;
            if (kind == '+' || kind == '-') {
                at++;
                first = readBadges();
            } else if (kind == 'x' || kind == 'g') {
                at++;
                first = readNumber();
            } else if (kind == 'd') {
                at++;
                first = readDigit();
            } else if (kind == 't') {
                at++;
                first = readDigit();
                second = first == NONE ? NONE : readTaught();
            }
            if (first == NONE || second == NONE) {
                return false;
            }
            kinds[orders] = kind;
            firsts[orders] = first;
            seconds[orders] = second;
            orders++;
            return true;
        }

        /** Reads letters, each behind those before, as a set; NONE without one. */
        private int readBadges() {
            int badges = 0;
            for (int badge = 0; badge < BADGES; badge++) {
                if (sign() == 'a' + badge) {
                    badges |= 1 << badge;
                    at++;
                }
            }
            return badges == 0 ? NONE : badges;
        }

        private int readTaught() {
            if (sign() != ':') {
                return NONE;
            }
            at++;
            return readNumber();
        }

        /** Reads a number of one or two digits; NONE without one. */
        private int readNumber() {
            int first = readDigit();
            if (first == NONE) {
                return NONE;
            }
            int second = readDigit();
            return second == NONE ? first : first * 10 + second;
        }

        private int readDigit() {
            char sign = sign();
            if (sign < '0' || sign > '9') {
                return NONE;
            }
            at++;
            return sign - '0';
        }
    }
}
