/**
 * A circle for the exchange of languages. The document ../shared/DOC.md says what each call answers.
 *
 * <p>All rows are made by the constructors and used again, so that no call makes an object but for what it throws.
 */
public final class TandemExchange {
    public static final int NONE = -9999;

    private static final int MOST_MEMBERS = 9;
    private static final int MOST_PAIRS = MOST_MEMBERS / 2;
    private static final int LANGUAGES = 4;
    private static final int MOST_LEVEL = 9;
    private static final int LEAST_LEAD = 2;
    private static final int POINTS_PER_LEVEL = 20;
    private static final int MOST_CREDITS = 99;
    private static final int MISSED_TO_PART = 3;
    private static final int MOST_REMEMBERED = 14;
    private static final int MOST_CHARACTERS = 90;
    private static final int CHARACTERS_PER_MEMBER = 8;
    private static final int SLOTS = 2;
    private static final int MOST_ABSENT = 511;
    private static final int MOST_STEPS = 50;
    private static final int MOST_WEEKS_AHEAD = 60;
    private static final int MOST_WEEKS_SEARCHED = 100;
    private static final int MOST_ROUNDS = 60;
    private static final int MOST_COMMANDS = 4;
    private static final int GROUP = 10000;

    private final Text text;
    private final Circle circle;
    private final Circle trial;
    private final History history;
    private final Circle[] slots;
    private final boolean[] saved;
    private final BestMatching bestMatching;

    public TandemExchange() {
        text = new Text();
        circle = new Circle();
        trial = new Circle();
        history = new History();
        slots = new Circle[SLOTS];
        for (int i = 0; i < SLOTS; i++) {
            slots[i] = new Circle();
        }
        saved = new boolean[SLOTS];
        bestMatching = new BestMatching();
    }

    // ---- text

    public int append(int c) throws IllegalArgumentException, IllegalStateException {
        requireRange(c, 0, 255);
        if (text.length >= MOST_CHARACTERS) {
            throw new IllegalStateException("the text is full");
        }
        text.add((char) c);
        return text.length;
    }

    public int clearText() {
        int previous = text.length;
        text.length = 0;
        return previous;
    }

    public int errorPosition() {
        return text.firstError();
    }

    public int load() throws IllegalStateException {
        if (text.firstError() != NONE) {
            throw new IllegalStateException("the text is not as described");
        }
        text.readInto(circle);
        history.forget();
        for (int i = 0; i < SLOTS; i++) {
            saved[i] = false;
        }
        return circle.size;
    }

    // ---- what there is

    public int about(int what) throws IllegalArgumentException {
        switch (what) {
            case 0: return circle.size;
            case 1: return circle.countPairs();
            case 2: return circle.weeks;
            case 3: return circle.sumOfValues();
            case 4: return circle.countBlocking();
            case 5: return circle.sumOfCredits();
            case 6: return circle.countFitting();
            default: throw new IllegalArgumentException("what is not 0 to 6");
        }
    }

    public int member(int a, int what) throws IndexOutOfBoundsException, IllegalArgumentException {
        requireMember(a);
        requireRange(what, 0, 10);
        return circle.numberOf(a, what);
    }

    public int both(int a, int b, int what) throws IndexOutOfBoundsException, IllegalArgumentException {
        requireTwoMembers(a, b);
        switch (what) {
            case 0: return circle.score(a, b);
            case 1: return circle.value(a, b);
            case 2: return circle.fit(a, b) ? 1 : 0;
            case 3: return circle.block(a, b) ? 1 : 0;
            default: throw new IllegalArgumentException("what is not 0 to 3");
        }
    }

    // ---- actions

    public int join(int wants, int levels, int credits) throws IllegalArgumentException, IllegalStateException {
        requireLanguage(wants);
        requireRange(levels, 0, 9999);
        requireRange(credits, -MOST_CREDITS, MOST_CREDITS);
        if (circle.size >= MOST_MEMBERS) {
            throw new IllegalStateException("the circle is full");
        }
        history.remember(circle);
        circle.add(wants, levels, credits);
        return circle.size - 1;
    }

    public int leave(int a) throws IndexOutOfBoundsException {
        requireMember(a);
        history.remember(circle);
        int credits = circle.members[a].credits;
        circle.remove(a);
        return credits;
    }

    public int want(int a, int language) throws IndexOutOfBoundsException, IllegalArgumentException {
        requireMember(a);
        requireLanguage(language);
        history.remember(circle);
        int previous = circle.members[a].wants;
        circle.changeWish(a, language);
        return previous;
    }

    public int test(int a, int language, int points) throws IndexOutOfBoundsException, IllegalArgumentException {
        requireMember(a);
        requireLanguage(language);
        requireRange(points, 0, 99);
        history.remember(circle);
        int previous = circle.members[a].levels[language];
        circle.grade(a, language, points);
        return previous;
    }

    public int pair(int a, int b) throws IndexOutOfBoundsException, IllegalArgumentException, IllegalStateException {
        requireTwoMembers(a, b);
        if (!circle.canBecomePartners(a, b)) {
            throw new IllegalStateException("one of them has a partner, or they do not fit");
        }
        history.remember(circle);
        circle.unite(a, b);
        return circle.value(a, b);
    }

    public int part(int a) throws IndexOutOfBoundsException, IllegalStateException {
        requireMember(a);
        requirePartner(a);
        history.remember(circle);
        int other = circle.members[a].partner;
        circle.separate(a);
        return other;
    }

    public int match() {
        history.remember(circle);
        return circle.matchFree();
    }

    public int settle(int k) throws IllegalArgumentException {
        requireRange(k, 1, MOST_STEPS);
        history.remember(circle);
        return circle.settleBy(k);
    }

    public int week(int absent) throws IllegalArgumentException {
        requireRange(absent, 0, MOST_ABSENT);
        history.remember(circle);
        circle.passWeek(absent);
        return circle.countPairs();
    }

    public int undo() throws IllegalStateException {
        if (history.count == 0) {
            throw new IllegalStateException("no state is remembered");
        }
        history.takeBack(circle);
        return history.count;
    }

    // ---- pairs; these and all following methods up to the save slots change nothing

    public int blocking(int i, boolean second) throws IllegalArgumentException {
        if (i < 0) {
            throw new IllegalArgumentException("i is negative");
        }
        int skip = i;
        for (int a = 0; a < circle.size; a++) {
            for (int b = a + 1; b < circle.size; b++) {
                if (circle.block(a, b)) {
                    if (skip == 0) {
                        return second ? b : a;
                    }
                    skip--;
                }
            }
        }
        return NONE;
    }

    public int bestPartner(int a, boolean free) throws IndexOutOfBoundsException {
        requireMember(a);
        int found = NONE;
        int greatest = 0;
        for (int b = 0; b < circle.size; b++) {
            if (circle.fit(a, b) && (!free || circle.isFree(b))) {
                int score = circle.score(a, b);
                if (found == NONE || score > greatest) {
                    found = b;
                    greatest = score;
                }
            }
        }
        return found;
    }

    public int best(int what) throws IllegalArgumentException {
        requireRange(what, 0, 1);
        bestMatching.fill(circle);
        int rank = bestMatching.rankOfAll(circle);
        return what == 0 ? bestMatching.pairsOf(rank) : bestMatching.sumOf(rank);
    }

    public int missedMost() {
        bestMatching.fill(circle);
        int found = NONE;
        int smallest = 0;
        for (int a = 0; a < circle.size; a++) {
            int rank = bestMatching.rankWithout(circle, a);
            if (found == NONE || rank < smallest) {
                found = a;
                smallest = rank;
            }
        }
        return found;
    }

    // ---- forecasts

    public int ahead(int a, int m, int absent, int what) throws IndexOutOfBoundsException, IllegalArgumentException {
        requireMember(a);
        requireRange(m, 0, MOST_WEEKS_AHEAD);
        requireRange(absent, 0, MOST_ABSENT);
        requireRange(what, 0, 10);
        trial.copyFrom(circle);
        for (int i = 0; i < m; i++) {
            trial.passWeek(absent);
        }
        return trial.numberOf(a, what);
    }

    public int levelAfter(int a, int level) throws IndexOutOfBoundsException, IllegalArgumentException {
        requireMember(a);
        requireRange(level, 0, MOST_LEVEL);
        trial.copyFrom(circle);
        for (int i = 0; i <= MOST_WEEKS_SEARCHED; i++) {
            if (trial.members[a].wantedLevel() >= level) {
                return i;
            }
            trial.matchFree();
            trial.passWeek(0);
        }
        return NONE;
    }

    public int partsAfter(int a, int absent) throws IndexOutOfBoundsException, IllegalArgumentException, IllegalStateException {
        requireMember(a);
        requireRange(absent, 0, MOST_ABSENT);
        requirePartner(a);
        trial.copyFrom(circle);
        for (int i = 1; i <= MOST_WEEKS_SEARCHED; i++) {
            trial.passWeek(absent);
            // Nobody finds a partner in a week: a free member has lost the one that there was.
            if (trial.isFree(a)) {
                return i;
            }
        }
        return NONE;
    }

    // ---- scripts, simulations

    public int runScript(int n, long script) throws IllegalArgumentException {
        requireRange(n, 1, MOST_COMMANDS);
        if (script < 0 || withoutLowestGroups(script, n) != 0) {
            throw new IllegalArgumentException("the script is negative or too long");
        }
        trial.copyFrom(circle);
        for (int i = 0; i < n; i++) {
            int command = (int) (withoutLowestGroups(script, n - 1 - i) % GROUP);
            if (!commandSucceeds(command)) {
                return i;
            }
        }
        return NONE;
    }

    public int simulate(long seed, int m) throws IllegalArgumentException {
        requireRange(m, 1, MOST_ROUNDS);
        trial.copyFrom(circle);
        long x = seed;
        for (int i = 0; i < m; i++) {
            x = x * 6364136223846793005L + 1442695040888963407L;
            int r = (int) (x >>> 33);
            if (r % 4 == 0) {
                trial.matchFree();
            }
            trial.passWeek(r / 4 % 512);
        }
        return trial.sumOfCredits();
    }

    // ---- save slots

    public int save(int slot) throws IndexOutOfBoundsException {
        requireSlot(slot);
        slots[slot].copyFrom(circle);
        saved[slot] = true;
        return circle.weeks;
    }

    public int restore(int slot) throws IndexOutOfBoundsException, IllegalStateException {
        requireSlot(slot);
        if (!saved[slot]) {
            throw new IllegalStateException("nothing has been saved in the slot");
        }
        circle.copyFrom(slots[slot]);
        history.forget();
        return circle.weeks;
    }

    // ---- what the calls require

    private void requireMember(int a) {
        if (!circle.has(a)) {
            throw new IndexOutOfBoundsException("there is no such member");
        }
    }

    private void requireTwoMembers(int a, int b) {
        requireMember(a);
        requireMember(b);
        if (a == b) {
            throw new IllegalArgumentException("the members are the same");
        }
    }

    private void requirePartner(int a) {
        if (circle.isFree(a)) {
            throw new IllegalStateException("the member has no partner");
        }
    }

    private static void requireLanguage(int language) {
        requireRange(language, 0, LANGUAGES - 1);
    }

    private static void requireRange(int number, int least, int most) {
        if (number < least || number > most) {
            throw new IllegalArgumentException("an argument is out of its range");
        }
    }

    private static void requireSlot(int slot) {
        if (slot < 0 || slot >= SLOTS) {
            throw new IndexOutOfBoundsException("there is no such save slot");
        }
    }

    // ---- the commands of a script

    private static long withoutLowestGroups(long script, int groups) {
        long rest = script;
        for (int i = 0; i < groups; i++) {
            rest /= GROUP;
        }
        return rest;
    }

    /** Runs one command on the trial circle; tells whether it succeeded. */
    private boolean commandSucceeds(int command) {
        int x = command / 100 % 10;
        int y = command / 10 % 10;
        int z = command % 10;
        switch (command / 1000) {
            case 1:
                if (z != 0 || !trial.has(x) || !trial.has(y) || x == y || !trial.canBecomePartners(x, y)) {
                    return false;
                }
                trial.unite(x, y);
                return true;
            case 2:
                if (y != 0 || z != 0 || !trial.has(x) || trial.isFree(x)) {
                    return false;
                }
                trial.separate(x);
                return true;
            case 3:
                if (x != 0 || y != 0 || z != 0) {
                    return false;
                }
                trial.matchFree();
                return true;
            case 4:
                int steps = 10 * y + z;
                if (x != 0 || steps < 1 || steps > MOST_STEPS) {
                    return false;
                }
                trial.settleBy(steps);
                return true;
            case 5:
                int absent = 100 * x + 10 * y + z;
                if (absent > MOST_ABSENT) {
                    return false;
                }
                trial.passWeek(absent);
                return true;
            case 6:
                if (!trial.has(x) || y >= LANGUAGES) {
                    return false;
                }
                trial.grade(x, y, 10 * z);
                return true;
            case 7:
                return z == 0 && trial.has(x) && trial.has(y) && trial.members[x].partner == y;
            case 8:
                return x == 0 && y == 0 && trial.countPairs() == z;
            case 9:
                return trial.has(x) && y < LANGUAGES && trial.members[x].levels[y] == z;
            default:
                return false;
        }
    }

    /** One member; the partner is a number of the circle that the member is in, or NONE. */
    private static final class Member {
        final int[] levels = new int[LANGUAGES];
        int wants;
        int progress;
        int credits;
        int missed;
        int partner;
        int missedInRow;

        void copyFrom(Member other) {
            System.arraycopy(other.levels, 0, levels, 0, LANGUAGES);
            wants = other.wants;
            progress = other.progress;
            credits = other.credits;
            missed = other.missed;
            partner = other.partner;
            missedInRow = other.missedInRow;
        }

        void start(int language, int fourLevels, int startCredits) {
            int rest = fourLevels;
            for (int i = LANGUAGES - 1; i >= 0; i--) {
                levels[i] = rest % 10;
                rest /= 10;
            }
            wants = language;
            progress = 0;
            credits = startCredits;
            missed = 0;
            partner = NONE;
            missedInRow = 0;
        }

        int wantedLevel() {
            return levels[wants];
        }

        void gainCredits(int gain) {
            credits = Math.max(-MOST_CREDITS, Math.min(MOST_CREDITS, credits + gain));
        }

        void learn(int points) {
            progress += points;
            if (progress >= POINTS_PER_LEVEL && levels[wants] < MOST_LEVEL) {
                levels[wants]++;
                progress -= POINTS_PER_LEVEL;
            }
            if (levels[wants] == MOST_LEVEL) {
                progress = 0;
            }
        }

        void meet(int points) {
            missedInRow = 0;
            gainCredits(1);
            learn(points);
        }

        void failToMeet(boolean absent) {
            missedInRow++;
            if (absent) {
                missed++;
                gainCredits(-3);
            } else {
                gainCredits(2);
            }
        }
    }

    /** The state that actions change. Members at and behind the size are rows not in use. */
    private static final class Circle {
        final Member[] members = new Member[MOST_MEMBERS];
        int size;
        int weeks;

        Circle() {
            for (int i = 0; i < MOST_MEMBERS; i++) {
                members[i] = new Member();
            }
        }

        void copyFrom(Circle other) {
            for (int i = 0; i < other.size; i++) {
                members[i].copyFrom(other.members[i]);
            }
            size = other.size;
            weeks = other.weeks;
        }

        boolean has(int a) {
            return a >= 0 && a < size;
        }

        boolean isFree(int a) {
            return members[a].partner == NONE;
        }

        /** The partner of a if the partner's number is the greater one, so that a loop meets each pair once. */
        int greaterPartner(int a) {
            int b = members[a].partner;
            return has(b) && b > a ? b : NONE;
        }

        int numberOf(int a, int what) {
            Member m = members[a];
            if (what >= 0 && what < LANGUAGES) {
                return m.levels[what];
            }
            switch (what) {
                case 4: return m.wants;
                case 5: return m.progress;
                case 6: return m.credits;
                case 7: return m.missed;
                case 8: return m.partner;
                case 9: return isFree(a) ? NONE : m.missedInRow;
                case 10: return countFittingWith(a);
                default: return NONE;
            }
        }

        // ---- two members

        /** By how many levels b is ahead of a in the language that a wants. */
        int lead(int a, int b) {
            int language = members[a].wants;
            return members[b].levels[language] - members[a].levels[language];
        }

        boolean fit(int a, int b) {
            return lead(a, b) >= LEAST_LEAD && lead(b, a) >= LEAST_LEAD;
        }

        int score(int a, int b) {
            Member m = members[b];
            return 10 * lead(a, b) - 5 * m.missed + Math.floorDiv(m.credits, 4);
        }

        int value(int a, int b) {
            return score(a, b) + score(b, a);
        }

        boolean block(int a, int b) {
            return members[a].partner != b && fit(a, b) && prefers(a, b) && prefers(b, a);
        }

        boolean prefers(int a, int b) {
            int present = members[a].partner;
            return !has(present) || score(a, present) < score(a, b);
        }

        boolean canBecomePartners(int a, int b) {
            return isFree(a) && isFree(b) && fit(a, b);
        }

        // ---- numbers of the whole circle

        int countPairs() {
            int count = 0;
            for (int a = 0; a < size; a++) {
                if (greaterPartner(a) != NONE) {
                    count++;
                }
            }
            return count;
        }

        int sumOfValues() {
            int sum = 0;
            for (int a = 0; a < size; a++) {
                int b = greaterPartner(a);
                if (b != NONE) {
                    sum += value(a, b);
                }
            }
            return sum;
        }

        int sumOfCredits() {
            int sum = 0;
            for (int a = 0; a < size; a++) {
                sum += members[a].credits;
            }
            return sum;
        }

        int countBlocking() {
            int count = 0;
            for (int a = 0; a < size; a++) {
                for (int b = a + 1; b < size; b++) {
                    if (block(a, b)) {
                        count++;
                    }
                }
            }
            return count;
        }

        int countFittingWith(int a) {
            int count = 0;
            for (int b = 0; b < size; b++) {
                if (fit(a, b)) {
                    count++;
                }
            }
            return count;
        }

        int countFitting() {
            int count = 0;
            for (int a = 0; a < size; a++) {
                count += countFittingWith(a);
            }
            return count / 2;
        }

        // ---- changes of members

        void add(int wants, int levels, int credits) {
            if (size < MOST_MEMBERS) {
                members[size].start(wants, levels, credits);
                size++;
            }
        }

        void remove(int a) {
            separate(a);
            size--;
            for (int i = a; i < size; i++) {
                members[i].copyFrom(members[i + 1]);
            }
            for (int i = 0; i < size; i++) {
                if (members[i].partner > a) {
                    members[i].partner--;
                }
            }
        }

        void changeWish(int a, int language) {
            members[a].wants = language;
            members[a].progress = 0;
            separateIfUnfit(a);
        }

        void grade(int a, int language, int points) {
            Member m = members[a];
            m.levels[language] = points / 10;
            if (m.wants == language) {
                m.progress = points % 10 * 2;
            }
            separateIfUnfit(a);
        }

        // ---- changes of pairs

        void unite(int a, int b) {
            members[a].partner = b;
            members[b].partner = a;
            members[a].missedInRow = 0;
            members[b].missedInRow = 0;
        }

        void separate(int a) {
            int b = members[a].partner;
            if (has(b)) {
                members[a].partner = NONE;
                members[b].partner = NONE;
            }
        }

        void separateIfUnfit(int a) {
            int b = members[a].partner;
            if (has(b) && !fit(a, b)) {
                separate(a);
            }
        }

        int matchFree() {
            int made = 0;
            while (made < MOST_PAIRS && uniteBestFreePair()) {
                made++;
            }
            return made;
        }

        boolean uniteBestFreePair() {
            int bestA = NONE;
            int bestB = NONE;
            int greatest = 0;
            for (int a = 0; a < size; a++) {
                for (int b = a + 1; b < size; b++) {
                    if (canBecomePartners(a, b) && (bestA == NONE || value(a, b) > greatest)) {
                        bestA = a;
                        bestB = b;
                        greatest = value(a, b);
                    }
                }
            }
            if (!has(bestA) || !has(bestB)) {
                return false;
            }
            unite(bestA, bestB);
            return true;
        }

        int settleBy(int steps) {
            int done = 0;
            while (done < steps && uniteFirstBlockingPair()) {
                done++;
            }
            return done;
        }

        boolean uniteFirstBlockingPair() {
            for (int a = 0; a < size; a++) {
                for (int b = a + 1; b < size; b++) {
                    if (block(a, b)) {
                        separate(a);
                        separate(b);
                        unite(a, b);
                        return true;
                    }
                }
            }
            return false;
        }

        // ---- a week

        void passWeek(int absent) {
            for (int a = 0; a < size; a++) {
                int b = greaterPartner(a);
                if (b != NONE) {
                    passWeekOfPair(a, b, absent);
                }
            }
            for (int a = 0; a < size; a++) {
                int b = greaterPartner(a);
                if (b != NONE && (!fit(a, b) || members[a].missedInRow >= MISSED_TO_PART)) {
                    separate(a);
                }
            }
            weeks++;
        }

        void passWeekOfPair(int a, int b, int absent) {
            boolean absentA = (absent >> a & 1) == 1;
            boolean absentB = (absent >> b & 1) == 1;
            if (absentA || absentB) {
                members[a].failToMeet(absentA);
                members[b].failToMeet(absentB);
            } else {
                // Both are told first: the levels ahead of the meeting count.
                int pointsOfA = pointsOfMeeting(a, b);
                int pointsOfB = pointsOfMeeting(b, a);
                members[a].meet(pointsOfA);
                members[b].meet(pointsOfB);
            }
        }

        int pointsOfMeeting(int a, int b) {
            return Math.max(1, 4 + lead(a, b));
        }
    }

    /** The text buffer and the rules of its text. */
    private static final class Text {
        final char[] characters = new char[MOST_CHARACTERS];
        int length;

        void add(char c) {
            if (length < MOST_CHARACTERS) {
                characters[length] = c;
                length++;
            }
        }

        int firstError() {
            for (int i = 0; i < length; i++) {
                if (!allows(i, characters[i])) {
                    return i;
                }
            }
            return isWhole() ? NONE : length;
        }

        boolean allows(int i, char c) {
            if (i == 0) {
                return c == 'L';
            }
            if (i > MOST_MEMBERS * CHARACTERS_PER_MEMBER) {
                return false;
            }
            int place = (i - 1) % CHARACTERS_PER_MEMBER;
            if (place == 0) {
                return c == 'm';
            }
            char most = place == 1 ? '3' : '9';
            return c >= '0' && c <= most;
        }

        boolean isWhole() {
            return length > 0 && (length - 1) % CHARACTERS_PER_MEMBER == 0;
        }

        /** Only for a text without an error. */
        void readInto(Circle circle) {
            circle.size = 0;
            circle.weeks = 0;
            for (int i = 1; i + CHARACTERS_PER_MEMBER <= length; i += CHARACTERS_PER_MEMBER) {
                circle.add(number(i + 1, 1), number(i + 2, 4), number(i + 6, 2));
            }
        }

        int number(int from, int digits) {
            int result = 0;
            for (int i = from; i < from + digits && i < length; i++) {
                result = 10 * result + characters[i] - '0';
            }
            return result;
        }
    }

    /** The remembered states, in a ring: when it is full, the place of the oldest one is used again. */
    private static final class History {
        final Circle[] states = new Circle[MOST_REMEMBERED];
        int oldest;
        int count;

        History() {
            for (int i = 0; i < MOST_REMEMBERED; i++) {
                states[i] = new Circle();
            }
        }

        void remember(Circle circle) {
            if (count >= MOST_REMEMBERED) {
                oldest = (oldest + 1) % MOST_REMEMBERED;
                count--;
            }
            states[(oldest + count) % MOST_REMEMBERED].copyFrom(circle);
            count++;
        }

        void takeBack(Circle circle) {
            if (count > 0) {
                count--;
                circle.copyFrom(states[(oldest + count) % MOST_REMEMBERED]);
            }
        }

        void forget() {
            count = 0;
        }
    }

    /**
     * The best matching within each set of members. Its rank is PAIR_WEIGHT for each pair plus the sum of the
     * values: a rank is greater if there are more pairs, or as many with a greater sum. This holds because within
     * 512 calls nobody misses more than 512 meetings, so that a sum of four values stays far below half the weight.
     */
    private static final class BestMatching {
        static final int PAIR_WEIGHT = 1000000;

        final int[] ranks = new int[1 << MOST_MEMBERS];

        void fill(Circle circle) {
            ranks[0] = 0;
            for (int last = 0; last < circle.size; last++) {
                int withLast = 1 << last;
                for (int others = 0; others < withLast; others++) {
                    ranks[withLast | others] = rankWith(circle, last, others);
                }
            }
        }

        int rankWith(Circle circle, int last, int others) {
            int rank = ranks[others];
            for (int b = 0; b < last; b++) {
                if ((others >> b & 1) == 1 && circle.fit(b, last)) {
                    int rest = others & ~(1 << b);
                    rank = Math.max(rank, ranks[rest] + PAIR_WEIGHT + circle.value(b, last));
                }
            }
            return rank;
        }

        int rankOfAll(Circle circle) {
            return ranks[(1 << circle.size) - 1];
        }

        int rankWithout(Circle circle, int a) {
            return ranks[((1 << circle.size) - 1) & ~(1 << a)];
        }

        int pairsOf(int rank) {
            return Math.floorDiv(rank + PAIR_WEIGHT / 2, PAIR_WEIGHT);
        }

        int sumOf(int rank) {
            return rank - pairsOf(rank) * PAIR_WEIGHT;
        }
    }
}
