import java.util.ArrayList;
import java.util.List;
import java.util.Random;

/** Runs of random calls, with fixed seeds, whose answers must be those of the model. */
public final class RandomRunTests {
    private static final int RUNS = 400;
    private static final int CALLS = 512;

    private static final Check check = new Check();

    private final Random random;
    private final TandemExchange exchange = new TandemExchange();
    private final Model model = new Model();
    private final List<String> calls = new ArrayList<>();
    private boolean wrong;

    private RandomRunTests(long seed) {
        random = new Random(seed);
    }

    public static void main(String[] args) {
        for (int seed = 0; seed < RUNS; seed++) {
            check.part("seed " + seed);
            check.that(new RandomRunTests(seed).holds(), "the run does not answer as the model does");
        }
        check.end();
    }

    private boolean holds() {
        start();
        while (calls.size() < CALLS && !wrong) {
            int kind = random.nextInt(100);
            if (kind < 45) {
                act();
            } else if (kind < 88) {
                ask();
            } else {
                keep();
            }
        }
        return !wrong;
    }

    /** Some runs start with a text, some with members who join, some with nobody. */
    private void start() {
        int members = random.nextInt(8) == 0 ? random.nextInt(3) : 3 + random.nextInt(7);
        if (random.nextBoolean()) {
            type("L");
            for (int i = 0; i < members; i++) {
                typeMember();
            }
            call("load()", () -> exchange.load(), () -> model.load());
        } else {
            for (int i = 0; i < members; i++) {
                join();
            }
        }
    }

    private void call(String name, Check.Call real, Check.Call due) {
        if (wrong) {
            return;
        }
        String got = answer(real);
        String want = answer(due);
        calls.add(name);
        if (!got.equals(want)) {
            wrong = true;
            System.out.println(String.join("; ", calls));
            System.out.println(name + " answered " + got + ", due is " + want);
        }
    }

    private static String answer(Check.Call call) {
        try {
            return String.valueOf(call.answer());
        } catch (RuntimeException e) {
            return e.getClass().getName();
        }
    }

    // ---- arguments: mostly in their range

    private int within(int least, int most) {
        int kind = random.nextInt(40);
        if (kind == 0) {
            return least - 1;
        }
        if (kind == 1) {
            return most + 1;
        }
        if (kind == 2 && random.nextInt(10) == 0) {
            return random.nextInt();
        }
        return least + random.nextInt(most - least + 1);
    }

    private int someone() {
        return within(0, Math.max(0, model.about(0) - 1));
    }

    /** Low levels in the language that is wanted and high ones in most others, so that many fit. */
    private int levels(int wants) {
        int result = 0;
        for (int i = 0; i < 4; i++) {
            result = 10 * result + level(i == wants);
        }
        return result;
    }

    private int level(boolean wanted) {
        if (random.nextInt(10) == 0) {
            return random.nextInt(10);
        }
        return wanted ? random.nextInt(4) : 9 - random.nextInt(5);
    }

    private int absent() {
        return switch (random.nextInt(4)) {
            case 0 -> 0;
            case 1 -> 1 << random.nextInt(9);
            case 2 -> random.nextInt(512) & random.nextInt(512);
            default -> within(0, 511);
        };
    }

    private void join() {
        int wants = within(0, 3);
        int levels = random.nextInt(20) == 0 ? within(0, 9999) : levels(wants);
        int credits = within(-99, 99);
        call("join(" + wants + ", " + levels + ", " + credits + ")",
                () -> exchange.join(wants, levels, credits), () -> model.join(wants, levels, credits));
    }

    // ---- calls

    private void act() {
        int a = someone();
        int b = someone();
        int language = within(0, 3);
        switch (random.nextInt(20)) {
            case 0 -> join();
            case 1 -> {
                if (random.nextInt(2) == 0) {
                    call("leave(" + a + ")", () -> exchange.leave(a), () -> model.leave(a));
                }
            }
            case 2 -> {
                if (random.nextInt(2) == 0) {
                    call("want(" + a + ", " + language + ")",
                            () -> exchange.want(a, language), () -> model.want(a, language));
                }
            }
            case 3 -> {
                int points = 10 * level(model.about(0) > a && a >= 0 && model.member(a, 4) == language) + within(0, 9);
                call("test(" + a + ", " + language + ", " + points + ")",
                        () -> exchange.test(a, language, points), () -> model.test(a, language, points));
            }
            case 4, 5, 6, 7 -> call("pair(" + a + ", " + b + ")", () -> exchange.pair(a, b), () -> model.pair(a, b));
            case 8 -> call("part(" + a + ")", () -> exchange.part(a), () -> model.part(a));
            case 9, 10 -> call("match()", () -> exchange.match(), () -> model.match());
            case 11, 12 -> {
                int k = random.nextBoolean() ? 1 : within(1, 50);
                call("settle(" + k + ")", () -> exchange.settle(k), () -> model.settle(k));
            }
            case 13 -> call("undo()", () -> exchange.undo(), () -> model.undo());
            default -> {
                int absent = absent();
                call("week(" + absent + ")", () -> exchange.week(absent), () -> model.week(absent));
            }
        }
    }

    private void ask() {
        int a = someone();
        int b = someone();
        int absent = absent();
        boolean flag = random.nextBoolean();
        switch (random.nextInt(15)) {
            case 0, 1 -> {
                int what = within(0, 6);
                call("about(" + what + ")", () -> exchange.about(what), () -> model.about(what));
            }
            case 2, 3, 4 -> {
                int what = within(0, 10);
                call("member(" + a + ", " + what + ")", () -> exchange.member(a, what), () -> model.member(a, what));
            }
            case 5 -> {
                int what = within(0, 3);
                call("both(" + a + ", " + b + ", " + what + ")",
                        () -> exchange.both(a, b, what), () -> model.both(a, b, what));
            }
            case 6 -> {
                int i = within(0, 5);
                call("blocking(" + i + ", " + flag + ")",
                        () -> exchange.blocking(i, flag), () -> model.blocking(i, flag));
            }
            case 7 -> call("bestPartner(" + a + ", " + flag + ")",
                    () -> exchange.bestPartner(a, flag), () -> model.bestPartner(a, flag));
            case 8 -> {
                int what = within(0, 1);
                call("best(" + what + ")", () -> exchange.best(what), () -> model.best(what));
            }
            case 9 -> call("missedMost()", () -> exchange.missedMost(), () -> model.missedMost());
            case 10 -> {
                int m = flag ? within(0, 5) : within(0, 60);
                int what = within(0, 10);
                call("ahead(" + a + ", " + m + ", " + absent + ", " + what + ")",
                        () -> exchange.ahead(a, m, absent, what), () -> model.ahead(a, m, absent, what));
            }
            case 11 -> {
                int level = within(0, 9);
                call("levelAfter(" + a + ", " + level + ")",
                        () -> exchange.levelAfter(a, level), () -> model.levelAfter(a, level));
            }
            case 12 -> call("partsAfter(" + a + ", " + absent + ")",
                    () -> exchange.partsAfter(a, absent), () -> model.partsAfter(a, absent));
            case 13 -> script();
            default -> {
                long seed = flag ? random.nextInt(100) : random.nextLong();
                int m = within(1, 60);
                call("simulate(" + seed + ", " + m + ")",
                        () -> exchange.simulate(seed, m), () -> model.simulate(seed, m));
            }
        }
    }

    private void script() {
        int n = within(1, 4);
        long script = 0;
        for (int i = 0; i < Math.max(1, Math.min(4, n)); i++) {
            script = 10000 * script + command();
        }
        if (random.nextInt(20) == 0) {
            script = random.nextInt(3) == 0 ? random.nextLong() : script * 10 - 5;
        }
        long whole = script;
        call("runScript(" + n + ", " + whole + ")",
                () -> exchange.runScript(n, whole), () -> model.runScript(n, whole));
    }

    /** One group of digits; nearly always a command that has a chance to succeed. */
    private int command() {
        int a = digit(model.about(0));
        int b = digit(model.about(0));
        int language = digit(4);
        return switch (random.nextInt(20)) {
            case 0, 1, 2 -> 1000 + 100 * a + 10 * b;
            case 3, 4 -> 2000 + 100 * a;
            case 5, 6 -> 3000;
            case 7, 8 -> 4000 + (random.nextInt(3) == 0 ? random.nextInt(60) : 1);
            case 9, 10, 11 -> 5000 + random.nextInt(random.nextInt(4) == 0 ? 520 : 4);
            case 12 -> 6000 + 100 * a + 10 * language + random.nextInt(10);
            case 13 -> 7000 + 100 * a + 10 * b;
            case 14, 15 -> 8000 + random.nextInt(4);
            case 16, 17, 18 -> 9000 + 100 * a + 10 * language + random.nextInt(10);
            default -> random.nextInt(10000);
        };
    }

    private int digit(int bound) {
        return random.nextInt(10) == 0 || bound == 0 ? random.nextInt(10) : random.nextInt(Math.min(bound, 10));
    }

    private void keep() {
        int slot = within(0, 1);
        switch (random.nextInt(8)) {
            case 0, 1 -> call("save(" + slot + ")", () -> exchange.save(slot), () -> model.save(slot));
            case 2 -> call("restore(" + slot + ")", () -> exchange.restore(slot), () -> model.restore(slot));
            case 3, 4 -> call("errorPosition()", () -> exchange.errorPosition(), () -> model.errorPosition());
            case 5 -> {
                if (random.nextInt(8) == 0) {
                    call("load()", () -> exchange.load(), () -> model.load());
                }
            }
            default -> typeSome();
        }
    }

    private void typeSome() {
        if (random.nextInt(9) == 0) {
            call("clearText()", () -> exchange.clearText(), () -> model.clearText());
            type("L");
        } else {
            typeMember();
        }
    }

    private void typeMember() {
        int wants = random.nextInt(4);
        type(String.format("m%d%04d%02d", wants, levels(wants), random.nextInt(100)));
    }

    private void type(String text) {
        for (int i = 0; i < text.length(); i++) {
            int c = random.nextInt(200) == 0 ? within(0, 255) : text.charAt(i);
            call("append(" + c + ")", () -> exchange.append(c), () -> model.append(c));
        }
    }
}
