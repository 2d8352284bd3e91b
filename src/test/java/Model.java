import java.util.ArrayDeque;
import java.util.ArrayList;
import java.util.Deque;
import java.util.List;

/** The document told a second time, with lists and copies and without regard to cost; RandomRunTests compares. */
final class Model {
    private static final int NONE = -9999;

    private static final class Person {
        int[] levels = new int[4];
        int wants;
        int progress;
        int credits;
        int missed;

        Person copy() {
            Person p = new Person();
            p.levels = levels.clone();
            p.wants = wants;
            p.progress = progress;
            p.credits = credits;
            p.missed = missed;
            return p;
        }

        void earn(int amount) {
            credits += amount;
            if (credits > 99) {
                credits = 99;
            }
            if (credits < -99) {
                credits = -99;
            }
        }
    }

    private record Couple(Person first, Person second, int[] row) {
        boolean holds(Person p) {
            return p == first || p == second;
        }

        Person other(Person p) {
            return p == first ? second : first;
        }
    }

    private static final class State {
        final List<Person> people = new ArrayList<>();
        final List<Couple> couples = new ArrayList<>();
        int weeks;

        State copy() {
            State s = new State();
            for (Person p : people) {
                s.people.add(p.copy());
            }
            for (Couple c : couples) {
                Person first = s.people.get(people.indexOf(c.first));
                Person second = s.people.get(people.indexOf(c.second));
                s.couples.add(new Couple(first, second, c.row.clone()));
            }
            s.weeks = weeks;
            return s;
        }

        Couple coupleOf(Person p) {
            for (Couple c : couples) {
                if (c.holds(p)) {
                    return c;
                }
            }
            return null;
        }

        int score(Person b, Person a) {
            int difference = b.levels[a.wants] - a.levels[a.wants];
            return 10 * difference - 5 * b.missed + (int) Math.floor(b.credits / 4.0);
        }

        int value(Person a, Person b) {
            return score(a, b) + score(b, a);
        }

        boolean fit(Person a, Person b) {
            return b.levels[a.wants] - a.levels[a.wants] > 1 && a.levels[b.wants] - b.levels[b.wants] > 1;
        }

        boolean wouldTake(Person a, Person b) {
            Couple c = coupleOf(a);
            return c == null || score(c.other(a), a) < score(b, a);
        }

        boolean block(Person a, Person b) {
            Couple c = coupleOf(a);
            return (c == null || !c.holds(b)) && fit(a, b) && wouldTake(a, b) && wouldTake(b, a);
        }

        List<int[]> blocks() {
            List<int[]> all = new ArrayList<>();
            for (int i = 0; i < people.size(); i++) {
                for (int j = i + 1; j < people.size(); j++) {
                    if (block(people.get(i), people.get(j))) {
                        all.add(new int[] {i, j});
                    }
                }
            }
            return all;
        }

        void dropUnfit() {
            couples.removeIf(c -> !fit(c.first, c.second));
        }

        int match() {
            int made = 0;
            while (true) {
                Couple best = null;
                for (Person a : people) {
                    for (Person b : people.subList(people.indexOf(a) + 1, people.size())) {
                        boolean possible = coupleOf(a) == null && coupleOf(b) == null && fit(a, b);
                        if (possible && (best == null || value(a, b) > value(best.first, best.second))) {
                            best = new Couple(a, b, new int[1]);
                        }
                    }
                }
                if (best == null) {
                    return made;
                }
                couples.add(best);
                made++;
            }
        }

        int settle(int k) {
            for (int step = 0; step < k; step++) {
                List<int[]> blocks = blocks();
                if (blocks.isEmpty()) {
                    return step;
                }
                Person a = people.get(blocks.get(0)[0]);
                Person b = people.get(blocks.get(0)[1]);
                couples.removeIf(c -> c.holds(a) || c.holds(b));
                couples.add(new Couple(a, b, new int[1]));
            }
            return k;
        }

        boolean absent(Person p, int set) {
            return (set & 1 << people.indexOf(p)) != 0;
        }

        int points(Person a, Person b) {
            int points = 4 + b.levels[a.wants] - a.levels[a.wants];
            return points < 1 ? 1 : points;
        }

        void progress(Person p, int points) {
            p.earn(1);
            int total = p.progress + points;
            p.levels[p.wants] += total / 20;
            p.progress = p.levels[p.wants] >= 9 ? 0 : total % 20;
        }

        void miss(Person p, int set) {
            if (absent(p, set)) {
                p.missed++;
                p.earn(-3);
            } else {
                p.earn(2);
            }
        }

        int week(int set) {
            for (Couple c : couples) {
                if (absent(c.first, set) || absent(c.second, set)) {
                    miss(c.first, set);
                    miss(c.second, set);
                    c.row[0]++;
                } else {
                    c.row[0] = 0;
                    int one = points(c.first, c.second);
                    int two = points(c.second, c.first);
                    progress(c.first, one);
                    progress(c.second, two);
                }
            }
            dropUnfit();
            couples.removeIf(c -> c.row[0] == 3);
            weeks++;
            return couples.size();
        }

        int credits() {
            return people.stream().mapToInt(p -> p.credits).sum();
        }

        int fitting(Person p) {
            return (int) people.stream().filter(q -> fit(p, q)).count();
        }

        int number(int a, int what) {
            Person p = people.get(a);
            Couple c = coupleOf(p);
            return switch (what) {
                case 4 -> p.wants;
                case 5 -> p.progress;
                case 6 -> p.credits;
                case 7 -> p.missed;
                case 8 -> c == null ? NONE : people.indexOf(c.other(p));
                case 9 -> c == null ? NONE : c.row[0];
                case 10 -> fitting(p);
                default -> p.levels[what];
            };
        }

        /** The number of pairs and the sum of values of the best matching of those who are left. */
        int[] best(List<Person> left) {
            if (left.isEmpty()) {
                return new int[] {0, 0};
            }
            Person a = left.get(0);
            List<Person> rest = left.subList(1, left.size());
            int[] best = best(rest);
            for (Person b : rest) {
                if (fit(a, b)) {
                    List<Person> others = new ArrayList<>(rest);
                    others.remove(b);
                    int[] found = best(others);
                    found[0]++;
                    found[1] += value(a, b);
                    if (found[0] > best[0] || found[0] == best[0] && found[1] > best[1]) {
                        best = found;
                    }
                }
            }
            return best;
        }
    }

    private String text = "";
    private State now = new State();
    private final Deque<State> past = new ArrayDeque<>();
    private final State[] slots = new State[2];

    private void noMemberUnless(boolean holds) {
        if (!holds) {
            throw new IndexOutOfBoundsException();
        }
    }

    private void badUnless(boolean holds) {
        if (!holds) {
            throw new IllegalArgumentException();
        }
    }

    private void stateUnless(boolean holds) {
        if (!holds) {
            throw new IllegalStateException();
        }
    }

    private Person person(int a) {
        noMemberUnless(a >= 0 && a < now.people.size());
        return now.people.get(a);
    }

    private void act() {
        past.addLast(now.copy());
        if (past.size() > 14) {
            past.removeFirst();
        }
    }

    int append(int c) {
        badUnless(c >= 0 && c <= 255);
        stateUnless(text.length() < 90);
        text += (char) c;
        return text.length();
    }

    int clearText() {
        int length = text.length();
        text = "";
        return length;
    }

    int errorPosition() {
        String whole = "L(m[0-3][0-9]{6}){0,9}";
        if (text.matches(whole)) {
            return NONE;
        }
        // A prefix is allowed if something can be added that makes it a text.
        String sample = "L" + "m0000000".repeat(9);
        for (int i = 0; i < text.length(); i++) {
            String start = text.substring(0, i + 1);
            if (i >= sample.length() || !(start + sample.substring(i + 1)).matches(whole)) {
                return i;
            }
        }
        return text.length();
    }

    int load() {
        stateUnless(errorPosition() == NONE);
        now = new State();
        for (String member : text.substring(1).split("m")) {
            if (!member.isEmpty()) {
                add(member.charAt(0) - '0', Integer.parseInt(member.substring(1, 5)), Integer.parseInt(member.substring(5)));
            }
        }
        past.clear();
        slots[0] = null;
        slots[1] = null;
        return now.people.size();
    }

    private void add(int wants, int levels, int credits) {
        Person p = new Person();
        p.wants = wants;
        p.levels = new int[] {levels / 1000, levels / 100 % 10, levels / 10 % 10, levels % 10};
        p.credits = credits;
        now.people.add(p);
    }

    int about(int what) {
        badUnless(what >= 0 && what <= 6);
        return switch (what) {
            case 0 -> now.people.size();
            case 1 -> now.couples.size();
            case 2 -> now.weeks;
            case 3 -> now.couples.stream().mapToInt(c -> now.value(c.first, c.second)).sum();
            case 4 -> now.blocks().size();
            case 5 -> now.credits();
            default -> now.people.stream().mapToInt(p -> now.fitting(p)).sum() / 2;
        };
    }

    int member(int a, int what) {
        person(a);
        badUnless(what >= 0 && what <= 10);
        return now.number(a, what);
    }

    int both(int a, int b, int what) {
        Person p = person(a);
        Person q = person(b);
        badUnless(a != b && what >= 0 && what <= 3);
        return switch (what) {
            case 0 -> now.score(q, p);
            case 1 -> now.value(p, q);
            case 2 -> now.fit(p, q) ? 1 : 0;
            default -> now.block(p, q) ? 1 : 0;
        };
    }

    int join(int wants, int levels, int credits) {
        badUnless(wants >= 0 && wants <= 3 && levels >= 0 && levels <= 9999 && Math.abs((long) credits) <= 99);
        stateUnless(now.people.size() < 9);
        act();
        add(wants, levels, credits);
        return now.people.size() - 1;
    }

    int leave(int a) {
        person(a);
        act();
        Person p = now.people.remove(a);
        now.couples.removeIf(c -> c.holds(p));
        return p.credits;
    }

    int want(int a, int language) {
        Person p = person(a);
        badUnless(language >= 0 && language <= 3);
        act();
        int previous = p.wants;
        p.wants = language;
        p.progress = 0;
        now.dropUnfit();
        return previous;
    }

    int test(int a, int language, int points) {
        Person p = person(a);
        badUnless(language >= 0 && language <= 3 && points >= 0 && points <= 99);
        act();
        int previous = p.levels[language];
        p.levels[language] = points / 10;
        if (language == p.wants) {
            p.progress = points % 10 * 2;
        }
        now.dropUnfit();
        return previous;
    }

    int pair(int a, int b) {
        Person p = person(a);
        Person q = person(b);
        badUnless(a != b);
        stateUnless(now.coupleOf(p) == null && now.coupleOf(q) == null && now.fit(p, q));
        act();
        now.couples.add(new Couple(p, q, new int[1]));
        return now.value(p, q);
    }

    int part(int a) {
        Couple c = now.coupleOf(person(a));
        stateUnless(c != null);
        act();
        now.couples.remove(c);
        return now.people.indexOf(c.other(person(a)));
    }

    int match() {
        act();
        return now.match();
    }

    int settle(int k) {
        badUnless(k >= 1 && k <= 50);
        act();
        return now.settle(k);
    }

    int week(int absent) {
        badUnless(absent >= 0 && absent <= 511);
        act();
        return now.week(absent);
    }

    int undo() {
        stateUnless(!past.isEmpty());
        now = past.removeLast();
        return past.size();
    }

    int blocking(int i, boolean second) {
        badUnless(i >= 0);
        List<int[]> blocks = now.blocks();
        return i < blocks.size() ? blocks.get(i)[second ? 1 : 0] : NONE;
    }

    int bestPartner(int a, boolean free) {
        Person p = person(a);
        Person best = null;
        for (Person q : now.people) {
            boolean possible = now.fit(p, q) && !(free && now.coupleOf(q) != null);
            if (possible && (best == null || now.score(q, p) > now.score(best, p))) {
                best = q;
            }
        }
        return best == null ? NONE : now.people.indexOf(best);
    }

    int best(int what) {
        badUnless(what == 0 || what == 1);
        return now.best(now.people)[what];
    }

    int missedMost() {
        int most = NONE;
        int[] least = null;
        for (int a = 0; a < now.people.size(); a++) {
            List<Person> others = new ArrayList<>(now.people);
            others.remove(a);
            int[] found = now.best(others);
            if (least == null || found[0] < least[0] || found[0] == least[0] && found[1] < least[1]) {
                most = a;
                least = found;
            }
        }
        return most;
    }

    int ahead(int a, int m, int absent, int what) {
        person(a);
        badUnless(m >= 0 && m <= 60 && absent >= 0 && absent <= 511 && what >= 0 && what <= 10);
        State copy = now.copy();
        for (int i = 0; i < m; i++) {
            copy.week(absent);
        }
        return copy.number(a, what);
    }

    int levelAfter(int a, int level) {
        person(a);
        badUnless(level >= 0 && level <= 9);
        State copy = now.copy();
        for (int weeks = 0; weeks <= 100; weeks++) {
            if (copy.number(a, copy.number(a, 4)) >= level) {
                return weeks;
            }
            copy.match();
            copy.week(0);
        }
        return NONE;
    }

    int partsAfter(int a, int absent) {
        Person p = person(a);
        badUnless(absent >= 0 && absent <= 511);
        stateUnless(now.coupleOf(p) != null);
        int partner = now.number(a, 8);
        State copy = now.copy();
        for (int weeks = 0; weeks <= 100; weeks++) {
            if (copy.number(a, 8) != partner) {
                return weeks;
            }
            copy.week(absent);
        }
        return NONE;
    }

    /** Runs the commands as calls of the methods with their effects, on a model of its own. */
    int runScript(int n, long script) {
        badUnless(n >= 1 && n <= 4 && script >= 0 && Long.toString(script).length() <= 4 * n);
        String digits = "0".repeat(16) + script;
        Model model = new Model();
        model.now = now.copy();
        for (int i = 0; i < n; i++) {
            int end = digits.length() - 4 * (n - 1 - i);
            try {
                if (!model.runs(digits.substring(end - 4, end))) {
                    return i;
                }
            } catch (RuntimeException e) {
                return i;
            }
        }
        return NONE;
    }

    private boolean runs(String command) {
        int x = command.charAt(1) - '0';
        int y = command.charAt(2) - '0';
        int z = command.charAt(3) - '0';
        if (command.matches("1..0")) {
            pair(x, y);
        } else if (command.matches("2.00")) {
            part(x);
        } else if (command.equals("3000")) {
            match();
        } else if (command.matches("40..")) {
            settle(Integer.parseInt(command.substring(2)));
        } else if (command.startsWith("5")) {
            week(Integer.parseInt(command.substring(1)));
        } else if (command.startsWith("6")) {
            test(x, y, 10 * z);
        } else if (command.matches("7..0")) {
            person(y);
            return member(x, 8) == y;
        } else if (command.matches("800.")) {
            return about(1) == z;
        } else if (command.startsWith("9")) {
            badUnless(y <= 3);
            return member(x, y) == z;
        } else {
            return false;
        }
        return true;
    }

    int simulate(long seed, int m) {
        badUnless(m >= 1 && m <= 60);
        State copy = now.copy();
        long x = seed;
        for (int i = 0; i < m; i++) {
            x = x * 6364136223846793005L + 1442695040888963407L;
            int r = (int) (x >>> 33);
            if (r % 4 == 0) {
                copy.match();
            }
            copy.week(r / 4 % 512);
        }
        return copy.credits();
    }

    int save(int slot) {
        noMemberUnless(slot == 0 || slot == 1);
        slots[slot] = now.copy();
        return now.weeks;
    }

    int restore(int slot) {
        noMemberUnless(slot == 0 || slot == 1);
        stateUnless(slots[slot] != null);
        now = slots[slot].copy();
        past.clear();
        return now.weeks;
    }
}
