/**
 * For each call the arguments at both sides of their bounds, and each reason for an exception, also several at once;
 * a call that throws must change nothing, and neither must a question.
 */
public final class RefusalTests {
    private static final Class<?> BOUNDS = IndexOutOfBoundsException.class;
    private static final Class<?> ARGUMENT = IllegalArgumentException.class;
    private static final Class<?> STATE = IllegalStateException.class;

    private static final int LEAST = Integer.MIN_VALUE;
    private static final int MOST = Integer.MAX_VALUE;

    private interface NumberCall {
        int on(TandemExchange x, int number);
    }

    private static final Check check = new Check();

    public static void main(String[] args) {
        text();
        numbers();
        members();
        grades();
        pairs();
        steps();
        undo();
        matchings();
        forecasts();
        forecastsOfPairs();
        scripts();
        simulations();
        slots();
        questionsChangeNothing();
        check.end();
    }

    // ---- circles

    private static TandemExchange empty() {
        return new TandemExchange();
    }

    /**
     * 0 and 1 are a pair that has missed two meetings in a row, 2 and 3 are free and fit, 4 fits nobody. More than
     * 14 actions lie behind it, both slots hold other states, and the text tells of other members.
     */
    private static TandemExchange busy() {
        TandemExchange x = Circles.loaded("Lm0290010m1830013m0090000m1900000m2999950");
        x.pair(0, 1);
        x.week(0);
        x.save(0);
        x.week(1);
        x.save(1);
        for (int i = 1; i <= 12; i++) {
            x.test(4, 0, 7 * i);
        }
        x.week(2);
        x.clearText();
        Circles.type(x, "Lm1234567m2345678");
        return x;
    }

    /** Nine members, four pairs, and a text of 90 characters with its error behind the ninth member. */
    private static TandemExchange full() {
        TandemExchange x = Circles.loaded("L" + "m0090000m1900000".repeat(4) + "m0090000");
        x.match();
        x.week(5);
        Circles.type(x, "m".repeat(17));
        return x;
    }

    /** The pairs are 0 and 2, 1 and 3. */
    private static TandemExchange allPaired() {
        return Circles.paired(Circles.SQUARE, 0, 2, 1, 3);
    }

    private static TandemExchange square() {
        return Circles.loaded(Circles.SQUARE);
    }

    // ---- how a call ends

    private static void refused(Class<?> due, Twins.Maker maker, String name, Twins.Call call) {
        String got = Twins.answer(maker.make(), call);
        check.that(got.equals(due.getSimpleName()), name + " answered " + got + ", due is " + due.getSimpleName());
        unchanged(maker, name, call);
    }

    private static void unchanged(Twins.Maker maker, String name, Twins.Call call) {
        String difference = Twins.difference(maker, call);
        check.that(difference.isEmpty(), name + " has changed something: " + difference);
    }

    private static void taken(Twins.Maker maker, String name, Twins.Call call) {
        String got = Twins.answer(maker.make(), call);
        check.that(!got.endsWith("Exception"), name + " answered " + got);
    }

    private static void outside(Class<?> due, Twins.Maker maker, int least, int most, String name, NumberCall call) {
        for (int number : new int[] {least - 1, most + 1, LEAST, MOST}) {
            refused(due, maker, name + " of " + number, x -> call.on(x, number));
        }
    }

    private static void inside(Twins.Maker maker, int least, int most, String name, NumberCall call) {
        for (int number : new int[] {least, most}) {
            taken(maker, name + " of " + number, x -> call.on(x, number));
        }
    }

    /** An argument from the least to the most number. */
    private static void range(Twins.Maker maker, int least, int most, String name, NumberCall call) {
        outside(ARGUMENT, maker, least, most, name, call);
        inside(maker, least, most, name, call);
    }

    /** Members who do not exist: of a busy circle, of a full one and of an empty one. */
    private static void noMember(String name, NumberCall call) {
        outside(BOUNDS, RefusalTests::busy, 0, 4, name, call);
        outside(BOUNDS, RefusalTests::full, 0, 8, name, call);
        outside(BOUNDS, RefusalTests::empty, 0, -1, name, call);
    }

    private static void member(String name, NumberCall call) {
        noMember(name, call);
        inside(RefusalTests::busy, 0, 4, name, call);
        inside(RefusalTests::full, 0, 8, name, call);
    }

    // ---- text

    private static void text() {
        check.part("promise 2");
        range(RefusalTests::busy, 0, 255, "append", (x, c) -> x.append(c));
        refused(STATE, RefusalTests::full, "append to a full text", x -> x.append('m'));
        refused(STATE, RefusalTests::full, "append(0) to a full text", x -> x.append(0));
        refused(STATE, RefusalTests::full, "append(255) to a full text", x -> x.append(255));
        outside(ARGUMENT, RefusalTests::full, 0, 255, "append to a full text", (x, c) -> x.append(c));

        check.part("promise 5");
        refused(STATE, RefusalTests::empty, "load() of ''", x -> x.load());
        refused(STATE, RefusalTests::full, "load() of ten members", x -> x.load());
        for (String wrong : new String[] {"", "l", "Lm", "LM0000000", "Lm000000", "Lm4000000", "Lm000000:", "Lm000000/",
            "Lm00000000", "L m0000000", "Lm0000000m", "Lm0000000\0"}) {
            refused(STATE, () -> busyWith(wrong), "load() of '" + wrong + "'", x -> x.load());
        }
        for (String right : new String[] {"L", "Lm0000000", "Lm3999999", "L" + "m3999999".repeat(9)}) {
            taken(() -> busyWith(right), "load() of '" + right + "'", x -> x.load());
        }
    }

    private static TandemExchange busyWith(String text) {
        TandemExchange x = busy();
        x.clearText();
        Circles.type(x, text);
        return x;
    }

    // ---- what there is

    private static void numbers() {
        check.part("promise 6");
        range(RefusalTests::empty, 0, 6, "about", (x, what) -> x.about(what));
        range(RefusalTests::busy, 0, 6, "about", (x, what) -> x.about(what));

        check.part("promise 7");
        member("member", (x, a) -> x.member(a, 0));
        range(RefusalTests::busy, 0, 10, "member(4, what)", (x, what) -> x.member(4, what));
        noMember("member with a wrong what", (x, a) -> x.member(a, 11));
        noMember("member with a what below 0", (x, a) -> x.member(a, -1));

        check.part("promise 8");
        noMember("both(a, 0, 0)", (x, a) -> x.both(a, 0, 0));
        noMember("both(0, b, 0)", (x, b) -> x.both(0, b, 0));
        noMember("both of the same", (x, a) -> x.both(a, a, 0));
        noMember("both with a wrong what", (x, b) -> x.both(0, b, 4));
        inside(RefusalTests::busy, 1, 4, "both(0, b, 0)", (x, b) -> x.both(0, b, 0));
        inside(RefusalTests::busy, 0, 3, "both(a, 4, 0)", (x, a) -> x.both(a, 4, 0));
        range(RefusalTests::busy, 0, 3, "both(4, 1, what)", (x, what) -> x.both(4, 1, what));
        for (int a = 0; a <= 4; a++) {
            int same = a;
            refused(ARGUMENT, RefusalTests::busy, "both of the same", x -> x.both(same, same, 0));
        }
    }

    // ---- actions

    private static void members() {
        check.part("promise 9");
        range(RefusalTests::busy, 0, 3, "join(wants, 0, 0)", (x, wants) -> x.join(wants, 0, 0));
        range(RefusalTests::busy, 0, 9999, "join(0, levels, 0)", (x, levels) -> x.join(0, levels, 0));
        range(RefusalTests::busy, -99, 99, "join(0, 0, credits)", (x, credits) -> x.join(0, 0, credits));
        range(RefusalTests::empty, -99, 99, "join(0, 0, credits)", (x, credits) -> x.join(0, 0, credits));
        refused(STATE, RefusalTests::full, "join of a tenth member", x -> x.join(0, 0, 0));
        outside(ARGUMENT, RefusalTests::full, 0, 3, "join of a tenth member", (x, wants) -> x.join(wants, 0, 0));
        outside(ARGUMENT, RefusalTests::full, 0, 9999, "join of a tenth member", (x, levels) -> x.join(0, levels, 0));
        outside(ARGUMENT, RefusalTests::full, -99, 99, "join of a tenth member", (x, credits) -> x.join(0, 0, credits));

        check.part("promise 10");
        member("leave", (x, a) -> x.leave(a));
    }

    private static void grades() {
        check.part("promise 11");
        member("want", (x, a) -> x.want(a, 0));
        noMember("want with a wrong language", (x, a) -> x.want(a, 4));
        range(RefusalTests::busy, 0, 3, "want(0, language)", (x, language) -> x.want(0, language));
        range(RefusalTests::busy, 0, 3, "want(4, language)", (x, language) -> x.want(4, language));

        check.part("promise 12");
        member("test", (x, a) -> x.test(a, 0, 0));
        noMember("test with a wrong language", (x, a) -> x.test(a, 4, 0));
        noMember("test with wrong points", (x, a) -> x.test(a, 0, 100));
        range(RefusalTests::busy, 0, 3, "test(0, language, 0)", (x, language) -> x.test(0, language, 0));
        range(RefusalTests::busy, 0, 99, "test(0, 0, points)", (x, points) -> x.test(0, 0, points));
        range(RefusalTests::busy, 0, 99, "test(0, 3, points)", (x, points) -> x.test(0, 3, points));
    }

    private static void pairs() {
        check.part("promise 13");
        noMember("pair(a, 0)", (x, a) -> x.pair(a, 0));
        noMember("pair(0, b)", (x, b) -> x.pair(0, b));
        noMember("pair of the same", (x, a) -> x.pair(a, a));
        inside(RefusalTests::square, 2, 3, "pair(0, b)", (x, b) -> x.pair(0, b));
        inside(RefusalTests::square, 0, 1, "pair(3, b)", (x, b) -> x.pair(3, b));
        for (int a = 0; a <= 4; a++) {
            int same = a;
            refused(ARGUMENT, RefusalTests::busy, "pair of the same", x -> x.pair(same, same));
        }
        int[][] unable = {{0, 1}, {1, 0}, {0, 3}, {3, 0}, {1, 2}, {2, 1}, {2, 4}, {4, 3}, {0, 4}, {4, 1}};
        for (int[] two : unable) {
            refused(STATE, RefusalTests::busy, "pair(" + two[0] + ", " + two[1] + ")", x -> x.pair(two[0], two[1]));
        }
        taken(RefusalTests::busy, "pair(3, 2)", x -> x.pair(3, 2));

        check.part("promise 14");
        noMember("part", (x, a) -> x.part(a));
        inside(RefusalTests::allPaired, 0, 3, "part", (x, a) -> x.part(a));
        for (int a = 2; a <= 4; a++) {
            int free = a;
            refused(STATE, RefusalTests::busy, "part(" + a + ")", x -> x.part(free));
        }
    }

    private static void steps() {
        check.part("promise 16");
        range(RefusalTests::busy, 1, 50, "settle", (x, k) -> x.settle(k));
        range(RefusalTests::empty, 1, 50, "settle", (x, k) -> x.settle(k));

        check.part("promise 17");
        range(RefusalTests::busy, 0, 511, "week", (x, absent) -> x.week(absent));
        range(RefusalTests::empty, 0, 511, "week", (x, absent) -> x.week(absent));
    }

    private static void undo() {
        check.part("promise 18");
        refused(STATE, RefusalTests::empty, "undo() of a new object", x -> x.undo());
        refused(STATE, RefusalTests::square, "undo() behind load()", x -> x.undo());
        refused(STATE, RefusalTests::restored, "undo() behind restore()", x -> x.undo());
        refused(STATE, () -> undone(14), "a fifteenth undo()", x -> x.undo());
        taken(() -> undone(13), "a fourteenth undo()", x -> x.undo());
    }

    private static TandemExchange restored() {
        TandemExchange x = busy();
        x.restore(1);
        return x;
    }

    private static TandemExchange undone(int times) {
        TandemExchange x = busy();
        for (int i = 0; i < times; i++) {
            x.undo();
        }
        return x;
    }

    // ---- pairs

    private static void matchings() {
        check.part("promise 19");
        for (int i : new int[] {-1, LEAST}) {
            for (Twins.Maker maker : new Twins.Maker[] {RefusalTests::busy, RefusalTests::empty}) {
                refused(ARGUMENT, maker, "blocking(" + i + ", false)", x -> x.blocking(i, false));
                refused(ARGUMENT, maker, "blocking(" + i + ", true)", x -> x.blocking(i, true));
            }
        }
        inside(RefusalTests::busy, 0, MOST, "blocking(i, false)", (x, i) -> x.blocking(i, false));
        inside(RefusalTests::empty, 0, MOST, "blocking(i, true)", (x, i) -> x.blocking(i, true));

        check.part("promise 20");
        member("bestPartner(a, false)", (x, a) -> x.bestPartner(a, false));
        member("bestPartner(a, true)", (x, a) -> x.bestPartner(a, true));

        check.part("promise 21");
        range(RefusalTests::busy, 0, 1, "best", (x, what) -> x.best(what));
        range(RefusalTests::empty, 0, 1, "best", (x, what) -> x.best(what));
    }

    // ---- forecasts

    private static void forecasts() {
        check.part("promise 23");
        member("ahead", (x, a) -> x.ahead(a, 1, 0, 0));
        noMember("ahead with a wrong m", (x, a) -> x.ahead(a, 61, 0, 0));
        noMember("ahead with a wrong absent", (x, a) -> x.ahead(a, 0, 512, 0));
        noMember("ahead with a wrong what", (x, a) -> x.ahead(a, 0, 0, 11));
        range(RefusalTests::busy, 0, 60, "ahead(0, m, 0, 0)", (x, m) -> x.ahead(0, m, 0, 0));
        range(RefusalTests::busy, 0, 511, "ahead(0, 1, absent, 0)", (x, absent) -> x.ahead(0, 1, absent, 0));
        range(RefusalTests::busy, 0, 10, "ahead(0, 1, 0, what)", (x, what) -> x.ahead(0, 1, 0, what));
        range(RefusalTests::busy, 0, 511, "ahead(0, 0, absent, 0)", (x, absent) -> x.ahead(0, 0, absent, 0));
        range(RefusalTests::busy, 0, 10, "ahead(0, 0, 0, what)", (x, what) -> x.ahead(0, 0, 0, what));

        check.part("promise 24");
        member("levelAfter", (x, a) -> x.levelAfter(a, 9));
        noMember("levelAfter with a wrong level", (x, a) -> x.levelAfter(a, 10));
        range(RefusalTests::busy, 0, 9, "levelAfter(0, level)", (x, level) -> x.levelAfter(0, level));
    }

    private static void forecastsOfPairs() {
        check.part("promise 25");
        noMember("partsAfter", (x, a) -> x.partsAfter(a, 0));
        noMember("partsAfter with a wrong absent", (x, a) -> x.partsAfter(a, 512));
        inside(RefusalTests::allPaired, 0, 3, "partsAfter", (x, a) -> x.partsAfter(a, 0));
        range(RefusalTests::busy, 0, 511, "partsAfter(1, absent)", (x, absent) -> x.partsAfter(1, absent));
        outside(ARGUMENT, RefusalTests::busy, 0, 511, "partsAfter(4, absent)", (x, absent) -> x.partsAfter(4, absent));
        for (int a = 2; a <= 4; a++) {
            int free = a;
            refused(STATE, RefusalTests::busy, "partsAfter(" + a + ", 0)", x -> x.partsAfter(free, 0));
        }
    }

    // ---- scripts, simulations

    private static void script(boolean right, int n, long script) {
        String name = "runScript(" + n + ", " + script + ")";
        if (right) {
            taken(RefusalTests::busy, name, x -> x.runScript(n, script));
        } else {
            refused(ARGUMENT, RefusalTests::busy, name, x -> x.runScript(n, script));
        }
    }

    private static void scripts() {
        check.part("promise 26");
        range(RefusalTests::busy, 1, 4, "runScript(n, 0)", (x, n) -> x.runScript(n, 0));
        range(RefusalTests::empty, 1, 4, "runScript(n, 3000)", (x, n) -> x.runScript(n, 3000));
        long firstTooLong = 1;
        for (int n = 1; n <= 4; n++) {
            firstTooLong *= 10000;
            script(true, n, 0);
            script(true, n, firstTooLong - 1);
            script(false, n, firstTooLong);
            script(false, n, -1);
            script(false, n, -firstTooLong);
            script(false, n, Long.MAX_VALUE);
            script(false, n, Long.MIN_VALUE);
            // As ints these two would be 0 and 3000.
            script(n >= 3, n, 1L << 32);
            script(n >= 3, n, (1L << 32) + 3000);
        }
    }

    private static void simulations() {
        check.part("promise 27");
        range(RefusalTests::busy, 1, 60, "simulate(5, m)", (x, m) -> x.simulate(5, m));
        range(RefusalTests::empty, 1, 60, "simulate(5, m)", (x, m) -> x.simulate(5, m));
        taken(RefusalTests::busy, "simulate of the least long", x -> x.simulate(Long.MIN_VALUE, 60));
        taken(RefusalTests::busy, "simulate of the greatest long", x -> x.simulate(Long.MAX_VALUE, 60));
    }

    // ---- save slots

    private static void slots() {
        check.part("promise 28");
        outside(BOUNDS, RefusalTests::busy, 0, 1, "save", (x, slot) -> x.save(slot));
        inside(RefusalTests::busy, 0, 1, "save", (x, slot) -> x.save(slot));

        check.part("promise 29");
        outside(BOUNDS, RefusalTests::busy, 0, 1, "restore", (x, slot) -> x.restore(slot));
        outside(BOUNDS, RefusalTests::empty, 0, 1, "restore", (x, slot) -> x.restore(slot));
        inside(RefusalTests::busy, 0, 1, "restore", (x, slot) -> x.restore(slot));
        for (int slot = 0; slot <= 1; slot++) {
            int here = slot;
            refused(STATE, RefusalTests::empty, "restore(" + slot + ") of a new object", x -> x.restore(here));
            refused(STATE, RefusalTests::busyAgain, "restore(" + slot + ") behind load()", x -> x.restore(here));
            refused(STATE, () -> savedIn(1 - here), "restore(" + slot + ") of the other slot", x -> x.restore(here));
            taken(() -> savedIn(here), "restore(" + slot + ")", x -> x.restore(here));
        }
    }

    /** A circle in which something was saved ahead of the last load. */
    private static TandemExchange busyAgain() {
        TandemExchange x = busy();
        x.load();
        x.week(0);
        return x;
    }

    private static TandemExchange savedIn(int slot) {
        TandemExchange x = allPaired();
        x.week(1);
        x.save(slot);
        x.week(0);
        return x;
    }

    // ---- questions

    private static void questionsChangeNothing() {
        check.part("questions change nothing");
        Twins.Call[] questions = {
            x -> x.errorPosition(), x -> x.about(4), x -> x.member(0, 9), x -> x.both(0, 1, 3),
            x -> x.blocking(0, true), x -> x.bestPartner(0, true), x -> x.best(1), x -> x.missedMost(),
            x -> x.ahead(0, 60, 1, 8), x -> x.levelAfter(0, 9), x -> x.partsAfter(0, 1),
            x -> x.runScript(4, 3000_2000_5000_6122L), x -> x.runScript(4, 5001_4050_1230_9999L),
            x -> x.simulate(9, 60)};
        for (int i = 0; i < questions.length; i++) {
            unchanged(RefusalTests::busy, "question " + i, questions[i]);
            unchanged(RefusalTests::full, "question " + i, questions[i]);
            unchanged(RefusalTests::empty, "question " + i, questions[i]);
        }
    }
}
