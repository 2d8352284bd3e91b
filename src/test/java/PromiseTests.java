/** For each promise of the document: ordinary inputs, the edges that it names, and wrong inputs. */
public final class PromiseTests {
    private static final int NONE = TandemExchange.NONE;

    private static final Check check = new Check();

    public static void main(String[] args) {
        newObject();
        append();
        clearText();
        errorPosition();
        load();
        about();
        member();
        both();
        join();
        leave();
        want();
        test();
        pair();
        part();
        match();
        settle();
        week();
        weekOfLevels();
        weekOfCredits();
        undo();
        blocking();
        bestPartner();
        best();
        missedMost();
        ahead();
        levelAfter();
        partsAfter();
        runScript();
        runScriptGroups();
        simulate();
        save();
        restore();
        nineMembers();
        questionsChangeNothing();
        check.end();
    }

    private static void newObject() {
        check.part("promise 1");
        TandemExchange x = new TandemExchange();
        check.aboutIs(x, 0, 0, 0, 0, 0, 0, 0);
        check.is(0, x.errorPosition(), "errorPosition()");
        check.is(0, x.clearText(), "clearText()");
        check.outOfBounds(() -> x.member(0, 0), "member(0, 0)");
        check.badState(() -> x.undo(), "undo()");
        check.badState(() -> x.restore(0), "restore(0)");
        check.badState(() -> x.restore(1), "restore(1)");
        check.is(-9999, TandemExchange.NONE, "NONE");
    }

    private static void append() {
        check.part("promise 2");
        TandemExchange x = new TandemExchange();
        check.badArgument(() -> x.append(-1), "append(-1)");
        check.badArgument(() -> x.append(256), "append(256)");
        check.badArgument(() -> x.append(Integer.MIN_VALUE), "append of the least int");
        check.is(1, x.append(0), "append(0)");
        check.is(2, x.append(255), "append(255)");
        for (int i = 3; i <= 90; i++) {
            check.is(i, x.append('m'), "append('m')");
        }
        check.badState(() -> x.append('m'), "append to a full text");
        check.badArgument(() -> x.append(256), "append(256) to a full text");
        check.is(90, x.clearText(), "clearText()");
        check.is(1, x.append('L'), "append('L')");
        check.is(NONE, x.errorPosition(), "errorPosition()");
    }

    private static void clearText() {
        check.part("promise 3");
        TandemExchange x = Circles.withText("Lm0");
        check.is(3, x.clearText(), "clearText()");
        check.is(0, x.clearText(), "clearText() again");
        check.is(0, x.errorPosition(), "errorPosition()");
        check.is(1, x.append('L'), "append('L')");
    }

    private static void errorAt(int due, String text) {
        check.is(due, Circles.withText(text).errorPosition(), "errorPosition() of '" + text + "'");
    }

    private static void errorPosition() {
        check.part("promise 4");
        errorAt(0, "");
        errorAt(NONE, "L");
        errorAt(0, "l");
        errorAt(0, "m0123456");
        errorAt(1, "LL");
        errorAt(1, "LM0123456");
        errorAt(1, "L ");
        String one = "Lm3123456";
        for (int i = 2; i < one.length(); i++) {
            errorAt(i, one.substring(0, i));
            errorAt(i, one.substring(0, i) + "/" + one.substring(i + 1));
            errorAt(i, one.substring(0, i) + ":" + one.substring(i + 1));
            errorAt(i, one.substring(0, i) + (char) 255);
        }
        errorAt(NONE, one);
        errorAt(NONE, "Lm0000000");
        errorAt(NONE, "Lm2999999");
        errorAt(2, "Lm4123456");
        errorAt(2, "Lm9123456");
        errorAt(9, one + "n");
        errorAt(9, one + "0");
        errorAt(10, one + "m");
        errorAt(10, one + "m4");
        errorAt(NONE, "L" + "m0123456".repeat(9));
        errorAt(72, "L" + "m0123456".repeat(8) + "m012345");
        errorAt(73, "L" + "m0123456".repeat(9) + "m");
        errorAt(73, "L" + "m0123456".repeat(9) + "m0123456");
        errorAt(73, "L" + "m0123456".repeat(9) + " ");
        errorAt(3, "Lm0 " + "9".repeat(86));
    }

    private static void load() {
        check.part("promise 5");
        TandemExchange x = Circles.withText("L");
        check.is(0, x.load(), "load() of 'L'");
        x.clearText();
        check.badState(() -> x.load(), "load() of ''");
        Circles.type(x, Circles.TWO);
        check.is(2, x.load(), "load()");
        check.memberIs(x, 0, 2, 9, 0, 0, 0, 0, 10, 0, NONE, NONE);
        check.memberIs(x, 1, 8, 3, 0, 0, 1, 0, 13, 0, NONE, NONE);
        loadReplacesEverything(x);

        TandemExchange y = Circles.loaded("L" + "m3123499".repeat(9));
        check.is(9, y.about(0), "about(0)");
        check.memberIs(y, 8, 1, 2, 3, 4, 3, 0, 99, 0, NONE, NONE);
        y.save(0);
        y.week(0);
        y.append('m');
        check.badState(() -> y.load(), "load() of ten members");
        check.is(1, y.about(2), "about(2) after a load that throws");
        check.is(0, y.undo(), "undo() after a load that throws");
        check.is(0, y.restore(0), "restore(0) after a load that throws");
    }

    private static void loadReplacesEverything(TandemExchange x) {
        x.pair(0, 1);
        x.week(0);
        x.week(1);
        x.save(0);
        x.save(1);
        check.is(2, x.load(), "load() again");
        check.is(17, x.clearText(), "clearText() after load()");
        check.memberIs(x, 0, 2, 9, 0, 0, 0, 0, 10, 0, NONE, NONE);
        check.memberIs(x, 1, 8, 3, 0, 0, 1, 0, 13, 0, NONE, NONE);
        check.aboutIs(x, 2, 0, 0, 0, 1, 23, 1);
        check.badState(() -> x.undo(), "undo() after load()");
        check.badState(() -> x.restore(0), "restore(0) after load()");
        check.badState(() -> x.restore(1), "restore(1) after load()");
    }

    private static void about() {
        check.part("promise 6");
        TandemExchange x = Circles.loaded(Circles.CHAIN);
        check.aboutIs(x, 4, 0, 0, 0, 3, 0, 3);
        x.pair(0, 1);
        check.aboutIs(x, 4, 1, 0, 60, 2, 0, 3);
        x.pair(2, 3);
        check.aboutIs(x, 4, 2, 0, 120, 1, 0, 3);
        x.week(1);
        // 0 is absent, so that 1 gets 2 credits and 0 loses 3; 2 and 3 meet.
        check.aboutIs(x, 4, 2, 1, 60 - 5 - 1 + 120 - 60, 1, 2 - 3 + 2, 3);
        x.join(2, 9999, -99);
        check.aboutIs(x, 5, 2, 1, 114, 1, -98, 3);
        check.badArgument(() -> x.about(-1), "about(-1)");
        check.badArgument(() -> x.about(7), "about(7)");
    }

    private static void member() {
        check.part("promise 7");
        TandemExchange x = Circles.paired("Lm2123456m0090000m1900000m0090007", 1, 2);
        check.memberIs(x, 0, 1, 2, 3, 4, 2, 0, 56, 0, NONE, NONE, 0);
        check.memberIs(x, 1, 0, 9, 0, 0, 0, 0, 0, 0, 2, 0, 1);
        check.memberIs(x, 2, 9, 0, 0, 0, 1, 0, 0, 0, 1, 0, 2);
        check.memberIs(x, 3, 0, 9, 0, 0, 0, 0, 7, 0, NONE, NONE, 1);
        x.week(0);
        x.week(2);
        check.memberIs(x, 1, 0, 9, 0, 0, 0, 13, -2, 1, 2, 1, 1);
        check.memberIs(x, 2, 9, 0, 0, 0, 1, 13, 3, 0, 1, 1, 2);
        check.outOfBounds(() -> x.member(-1, 0), "member(-1, 0)");
        check.outOfBounds(() -> x.member(4, 0), "member(4, 0)");
        check.outOfBounds(() -> x.member(4, 11), "member(4, 11)");
        check.badArgument(() -> x.member(0, -1), "member(0, -1)");
        check.badArgument(() -> x.member(3, 11), "member(3, 11)");
    }

    private static void both() {
        check.part("promise 8");
        TandemExchange x = Circles.loaded(Circles.TWO);
        check.is(63, x.both(0, 1, 0), "both(0, 1, 0)");
        check.is(62, x.both(1, 0, 0), "both(1, 0, 0)");
        check.is(125, x.both(0, 1, 1), "both(0, 1, 1)");
        check.is(125, x.both(1, 0, 1), "both(1, 0, 1)");
        check.is(1, x.both(1, 0, 2), "both(1, 0, 2)");
        check.is(1, x.both(1, 0, 3), "both(1, 0, 3)");
        x.pair(0, 1);
        check.is(0, x.both(0, 1, 3), "both(0, 1, 3) of partners");
        x.week(1);
        check.is(63, x.both(0, 1, 0), "both(0, 1, 0) with 15 credits");
        check.is(60 - 5 + 1, x.both(1, 0, 0), "both(1, 0, 0) with a missed meeting and 7 credits");
        scoresOfNegativeCredits();
        bothFit();
        bothBlock();
        check.outOfBounds(() -> x.both(2, 0, 0), "both(2, 0, 0)");
        check.outOfBounds(() -> x.both(0, 2, 0), "both(0, 2, 0)");
        check.outOfBounds(() -> x.both(-1, -1, 9), "both(-1, -1, 9)");
        check.outOfBounds(() -> x.both(0, -1, 4), "both(0, -1, 4)");
        check.badArgument(() -> x.both(1, 1, 0), "both(1, 1, 0)");
        check.badArgument(() -> x.both(0, 1, -1), "both(0, 1, -1)");
        check.badArgument(() -> x.both(0, 1, 4), "both(0, 1, 4)");
    }

    private static void scoresOfNegativeCredits() {
        int[] credits = {-99, -5, -4, -3, -1, 0, 3, 4, 99};
        int[] quarters = {-25, -2, -1, -1, -1, 0, 0, 1, 24};
        for (int i = 0; i < credits.length; i++) {
            TandemExchange x = new TandemExchange();
            x.join(2, 1111, 0);
            x.join(0, 9999, credits[i]);
            check.is(80 + quarters[i], x.both(0, 1, 0), "both(0, 1, 0) with credits " + credits[i]);
            check.is(-80, x.both(1, 0, 0), "both(1, 0, 0)");
        }
    }

    private static int fits(int firstWants, int firstLevels, int secondWants, int secondLevels) {
        TandemExchange x = new TandemExchange();
        x.join(firstWants, firstLevels, 0);
        x.join(secondWants, secondLevels, 0);
        return x.both(0, 1, 2);
    }

    private static void bothFit() {
        check.is(1, fits(0, 3500, 1, 5300), "both(0, 1, 2) with leads of 2");
        check.is(0, fits(0, 3500, 1, 4300), "both(0, 1, 2) with a lead of 1 for 0");
        check.is(0, fits(0, 3500, 1, 5400), "both(0, 1, 2) with a lead of 1 for 1");
        check.is(0, fits(0, 3500, 0, 5300), "both(0, 1, 2) with the same wish");
        check.is(1, fits(3, 5, 2, 50) + fits(2, 79, 3, 97), "both(0, 1, 2) in the languages 2 and 3");
    }

    private static void bothBlock() {
        TandemExchange x = Circles.paired(Circles.SQUARE, 0, 2);
        check.is(0, x.both(0, 3, 3), "both(0, 3, 3): the partner has the same score");
        check.is(0, x.both(0, 1, 3), "both(0, 1, 3): they do not fit");
        check.is(1, x.both(1, 3, 3), "both(1, 3, 3): both are free");
        x.week(4);
        check.is(1, x.both(0, 3, 3), "both(0, 3, 3): the partner has missed a meeting");
        check.is(1, x.both(3, 0, 3), "both(3, 0, 3)");
        x.pair(1, 3);
        check.is(0, x.both(0, 3, 3), "both(0, 3, 3): 3 has a partner with the same score");
        x.week(2);
        x.week(2);
        check.is(1, x.both(0, 3, 3), "both(0, 3, 3): both have worse partners");
    }

    private static void join() {
        check.part("promise 9");
        TandemExchange x = new TandemExchange();
        check.is(0, x.join(0, 0, -99), "join(0, 0, -99)");
        check.is(1, x.join(3, 9999, 99), "join(3, 9999, 99)");
        check.is(2, x.join(2, 1234, -7), "join(2, 1234, -7)");
        check.memberIs(x, 0, 0, 0, 0, 0, 0, 0, -99, 0, NONE, NONE);
        check.memberIs(x, 1, 9, 9, 9, 9, 3, 0, 99, 0, NONE, NONE);
        check.memberIs(x, 2, 1, 2, 3, 4, 2, 0, -7, 0, NONE, NONE);
        check.badArgument(() -> x.join(-1, 0, 0), "join(-1, 0, 0)");
        check.badArgument(() -> x.join(4, 0, 0), "join(4, 0, 0)");
        check.badArgument(() -> x.join(0, -1, 0), "join(0, -1, 0)");
        check.badArgument(() -> x.join(0, 10000, 0), "join(0, 10000, 0)");
        check.badArgument(() -> x.join(0, 0, -100), "join(0, 0, -100)");
        check.badArgument(() -> x.join(0, 0, 100), "join(0, 0, 100)");
        for (int i = 3; i < 9; i++) {
            check.is(i, x.join(0, 9, 0), "join(0, 9, 0)");
        }
        check.badState(() -> x.join(0, 0, 0), "join of a tenth member");
        check.badArgument(() -> x.join(0, 0, 100), "join of a tenth member with 100 credits");
        check.is(9, x.about(0), "about(0)");
        check.is(8, x.undo(), "undo()");
        check.is(8, x.about(0), "about(0) after undo()");
        joinAfterPairs();
    }

    private static void joinAfterPairs() {
        TandemExchange x = Circles.paired(Circles.TWO, 0, 1);
        x.week(1);
        x.leave(0);
        check.is(1, x.join(1, 5005, 1), "join(1, 5005, 1)");
        check.memberIs(x, 1, 5, 0, 0, 5, 1, 0, 1, 0, NONE, NONE);
    }

    private static void leave() {
        check.part("promise 10");
        TandemExchange x = Circles.paired("Lm2123456m0090001m1900002m0090003m1900004", 1, 4, 3, 2);
        x.week(4);
        check.is(56, x.leave(0), "leave(0)");
        check.partnersAre(x, 3, 2, 1, 0);
        check.memberIs(x, 1, 9, 0, 0, 0, 1, 0, -1, 1, 2, 1);
        check.memberIs(x, 3, 9, 0, 0, 0, 1, 13, 5, 0, 0, 0);
        check.is(-1, x.leave(1), "leave(1)");
        check.partnersAre(x, 2, NONE, 0);
        check.is(5, x.member(1, 6), "member(1, 6)");
        check.is(5, x.leave(2), "leave(2)");
        check.partnersAre(x, NONE, NONE);
        check.is(2, x.about(0), "about(0)");
        check.outOfBounds(() -> x.leave(2), "leave(2)");
        check.outOfBounds(() -> x.leave(-1), "leave(-1)");
        check.is(5, x.undo(), "undo()");
        check.partnersAre(x, 2, NONE, 0);
    }

    private static void want() {
        check.part("promise 11");
        TandemExchange x = Circles.paired(Circles.TWO, 0, 1);
        x.week(0);
        check.is(0, x.want(0, 0), "want(0, 0)");
        check.memberIs(x, 0, 2, 9, 0, 0, 0, 0, 11, 0, 1, 0);
        check.memberIs(x, 1, 8, 3, 0, 0, 1, 10, 14, 0, 0, 0);
        check.is(0, x.want(0, 3), "want(0, 3)");
        check.memberIs(x, 0, 2, 9, 0, 0, 3, 0, 11, 0, NONE, NONE);
        check.memberIs(x, 1, 8, 3, 0, 0, 1, 10, 14, 0, NONE, NONE);
        check.is(3, x.want(0, 0), "want(0, 0)");
        check.partnersAre(x, NONE, NONE);
        check.is(1, x.want(1, 2), "want(1, 2)");
        check.is(0, x.member(1, 5), "member(1, 5)");
        check.outOfBounds(() -> x.want(2, 0), "want(2, 0)");
        check.outOfBounds(() -> x.want(-1, 4), "want(-1, 4)");
        check.badArgument(() -> x.want(0, 4), "want(0, 4)");
        check.badArgument(() -> x.want(0, -1), "want(0, -1)");
        TandemExchange y = Circles.paired("Lm0330000m1800000", 0, 1);
        y.test(1, 3, 50);
        y.want(0, 3);
        check.partnersAre(y, 1, 0);
    }

    private static void test() {
        check.part("promise 12");
        TandemExchange x = Circles.paired(Circles.TWO, 0, 1);
        x.week(0);
        check.is(0, x.test(0, 3, 99), "test(0, 3, 99)");
        check.memberIs(x, 0, 2, 9, 0, 9, 0, 10, 11, 0, 1, 0);
        check.is(9, x.test(0, 1, 50), "test(0, 1, 50)");
        check.partnersAre(x, 1, 0);
        check.is(2, x.test(0, 0, 69), "test(0, 0, 69)");
        check.memberIs(x, 0, 6, 5, 0, 9, 0, 18, 11, 0, 1, 0);
        check.is(6, x.test(0, 0, 70), "test(0, 0, 70)");
        check.memberIs(x, 0, 7, 5, 0, 9, 0, 0, 11, 0, NONE, NONE);
        check.memberIs(x, 1, 8, 3, 0, 0, 1, 10, 14, 0, NONE, NONE);
        check.is(7, x.test(0, 0, 95), "test(0, 0, 95)");
        check.memberIs(x, 0, 9, 5, 0, 9, 0, 10);
        check.is(9, x.test(0, 0, 0), "test(0, 0, 0)");
        check.memberIs(x, 0, 0, 5, 0, 9, 0, 0);
        check.partnersAre(x, NONE, NONE);
        check.outOfBounds(() -> x.test(2, 0, 0), "test(2, 0, 0)");
        check.outOfBounds(() -> x.test(-1, 4, 100), "test(-1, 4, 100)");
        check.badArgument(() -> x.test(0, -1, 0), "test(0, -1, 0)");
        check.badArgument(() -> x.test(0, 4, 0), "test(0, 4, 0)");
        check.badArgument(() -> x.test(0, 0, -1), "test(0, 0, -1)");
        check.badArgument(() -> x.test(0, 0, 100), "test(0, 0, 100)");
        TandemExchange y = Circles.paired(Circles.TWO, 0, 1);
        check.is(9, y.test(0, 1, 49), "test(0, 1, 49)");
        check.partnersAre(y, NONE, NONE);
    }

    private static void pair() {
        check.part("promise 13");
        TandemExchange x = Circles.loaded(Circles.CHAIN);
        check.is(60, x.pair(1, 0), "pair(1, 0)");
        check.partnersAre(x, 1, 0, NONE, NONE);
        check.badState(() -> x.pair(0, 1), "pair(0, 1) of partners");
        check.badState(() -> x.pair(1, 2), "pair(1, 2): 1 has a partner");
        check.badState(() -> x.pair(2, 1), "pair(2, 1): 1 has a partner");
        check.badState(() -> x.pair(3, 0), "pair(3, 0): they do not fit");
        x.part(0);
        check.badState(() -> x.pair(0, 3), "pair(0, 3): they do not fit");
        check.badState(() -> x.pair(0, 2), "pair(0, 2): they do not fit");
        check.badArgument(() -> x.pair(2, 2), "pair(2, 2)");
        check.outOfBounds(() -> x.pair(4, 4), "pair(4, 4)");
        check.outOfBounds(() -> x.pair(0, 4), "pair(0, 4)");
        check.outOfBounds(() -> x.pair(-1, 0), "pair(-1, 0)");
        check.is(1, x.undo(), "undo()");
        x.week(2);
        x.part(1);
        x.pair(0, 1);
        check.is(0, x.member(0, 9), "member(0, 9) of a new pair");
        check.is(0, x.member(1, 9), "member(1, 9) of a new pair");
    }

    private static void part() {
        check.part("promise 14");
        TandemExchange x = Circles.paired(Circles.CHAIN, 0, 1, 2, 3);
        check.is(2, x.part(3), "part(3)");
        check.partnersAre(x, 1, 0, NONE, NONE);
        check.badState(() -> x.part(2), "part(2)");
        check.badState(() -> x.part(3), "part(3) again");
        check.is(1, x.part(0), "part(0)");
        check.partnersAre(x, NONE, NONE, NONE, NONE);
        check.outOfBounds(() -> x.part(4), "part(4)");
        check.outOfBounds(() -> x.part(-1), "part(-1)");
        check.is(3, x.undo(), "undo()");
        check.partnersAre(x, 1, 0, NONE, NONE);
    }

    private static void match() {
        check.part("promise 15");
        TandemExchange x = Circles.loaded(Circles.CHAIN);
        check.is(1, x.match(), "match()");
        check.partnersAre(x, NONE, 2, 1, NONE);
        check.is(0, x.match(), "match() again");
        TandemExchange y = Circles.paired(Circles.CHAIN, 0, 1);
        check.is(1, y.match(), "match() beside a pair");
        check.partnersAre(y, 1, 0, 3, 2);
        TandemExchange square = Circles.loaded(Circles.SQUARE);
        check.is(2, square.match(), "match() of equals");
        check.partnersAre(square, 2, 3, 0, 1);
        TandemExchange z = Circles.loaded("Lm0090000m0090000m1900000m1900004");
        check.is(2, z.match(), "match() with a best one");
        check.partnersAre(z, 3, 2, 1, 0);
        TandemExchange worst = new TandemExchange();
        worst.join(0, 200, -99);
        worst.join(1, 2000, -99);
        check.is(1, worst.match(), "match() with a value below 0");
        check.is(-10, worst.about(3), "about(3)");
        TandemExchange many = Circles.loaded("L" + "m0090000m1900000".repeat(4) + "m0090000");
        check.is(4, many.match(), "match() of nine");
        check.partnersAre(many, 1, 0, 3, 2, 5, 4, 7, 6, NONE);
        check.is(0, new TandemExchange().match(), "match() of nobody");
    }

    private static void settle() {
        check.part("promise 16");
        TandemExchange x = Circles.loaded(Circles.CHAIN);
        check.is(1, x.settle(1), "settle(1)");
        check.partnersAre(x, 1, 0, NONE, NONE);
        check.is(1, x.settle(1), "settle(1) again");
        check.partnersAre(x, NONE, 2, 1, NONE);
        check.is(0, x.settle(50), "settle(50) without blocking members");
        TandemExchange y = Circles.loaded(Circles.CHAIN);
        check.is(2, y.settle(50), "settle(50)");
        check.partnersAre(y, NONE, 2, 1, NONE);
        TandemExchange z = Circles.paired(Circles.CHAIN, 0, 1, 2, 3);
        z.week(2);
        check.is(1, z.settle(2), "settle(2) of two pairs");
        check.partnersAre(z, NONE, 2, 1, NONE);
        check.is(0, z.member(1, 9), "member(1, 9) of a new pair");
        TandemExchange square = Circles.loaded(Circles.SQUARE);
        check.is(2, square.settle(3), "settle(3)");
        check.partnersAre(square, 2, 3, 0, 1);
        check.badArgument(() -> x.settle(0), "settle(0)");
        check.badArgument(() -> x.settle(51), "settle(51)");
        check.is(2, x.undo(), "undo()");
    }

    private static void week() {
        check.part("promise 17");
        TandemExchange x = Circles.paired(Circles.TWO, 0, 1);
        check.is(1, x.week(508), "week(508): absent are none who exist");
        check.memberIs(x, 0, 2, 9, 0, 0, 0, 10, 11, 0, 1, 0);
        check.memberIs(x, 1, 8, 3, 0, 0, 1, 10, 14, 0, 0, 0);
        check.is(1, x.week(1), "week(1)");
        check.memberIs(x, 0, 2, 9, 0, 0, 0, 10, 8, 1, 1, 1);
        check.memberIs(x, 1, 8, 3, 0, 0, 1, 10, 16, 0, 0, 1);
        check.is(1, x.week(511), "week(511)");
        check.memberIs(x, 0, 2, 9, 0, 0, 0, 10, 5, 2, 1, 2);
        check.memberIs(x, 1, 8, 3, 0, 0, 1, 10, 13, 1, 0, 2);
        check.is(1, x.week(0), "week(0)");
        check.memberIs(x, 0, 3, 9, 0, 0, 0, 0, 6, 2, 1, 0);
        check.memberIs(x, 1, 8, 4, 0, 0, 1, 0, 14, 1, 0, 0);
        x.week(1);
        x.week(1);
        check.is(0, x.week(2), "week(2), the third one that is missed");
        check.memberIs(x, 0, 3, 9, 0, 0, 0, 0, 2, 4, NONE, NONE);
        check.memberIs(x, 1, 8, 4, 0, 0, 1, 0, 15, 2, NONE, NONE);
        check.is(7, x.about(2), "about(2)");
        check.is(0, x.week(3), "week(3) without a pair");
        check.memberIs(x, 0, 3, 9, 0, 0, 0, 0, 2, 4, NONE, NONE);
        check.badArgument(() -> x.week(-1), "week(-1)");
        check.badArgument(() -> x.week(512), "week(512)");
        check.is(8, x.about(2), "about(2) after weeks that throw");
        TandemExchange last = Circles.paired("L" + "m2999900".repeat(7) + "m0090000m1900000", 7, 8);
        last.week(256);
        check.is(0, last.member(7, 7), "member(7, 7)");
        check.is(1, last.member(8, 7), "member(8, 7)");
    }

    /** The leads shrink from 6 to 1; the points of each meeting are 4 plus the lead. */
    private static void weekOfLevels() {
        TandemExchange x = Circles.paired(Circles.TWO, 0, 1);
        int[] progress = {10, 0, 9, 18, 7, 15, 3, 10, 17, 4, 10, 16, 2, 2};
        int[] rises = {0, 1, 1, 1, 2, 2, 3, 3, 3, 4, 4, 4, 5, 5};
        for (int i = 0; i < progress.length; i++) {
            check.is(i < 12 ? 1 : 0, x.week(0), "week(0)");
            check.memberIs(x, 0, 2 + rises[i], 9, 0, 0, 0, progress[i], 10 + Math.min(i + 1, 13));
            check.memberIs(x, 1, 8, 3 + rises[i], 0, 0, 1, progress[i]);
        }
        check.partnersAre(x, NONE, NONE);
        TandemExchange uneven = Circles.paired("Lm0070000m1950000", 0, 1);
        uneven.week(0);
        check.memberIs(uneven, 0, 0, 7, 0, 0, 0, 13);
        check.memberIs(uneven, 1, 9, 5, 0, 0, 1, 6);
        uneven.week(0);
        check.memberIs(uneven, 0, 1, 7, 0, 0, 0, 6);
        check.memberIs(uneven, 1, 9, 5, 0, 0, 1, 12);
    }

    private static void weekOfCredits() {
        TandemExchange x = new TandemExchange();
        x.join(0, 900, 98);
        x.join(1, 9000, -98);
        x.join(0, 900, -97);
        x.join(1, 9000, 99);
        x.pair(0, 1);
        x.pair(2, 3);
        x.week(2 + 4);
        check.is(99, x.member(0, 6), "98 credits and 2 more");
        check.is(-99, x.member(1, 6), "-98 credits and 3 less");
        check.is(-99, x.member(2, 6), "-97 credits and 3 less");
        check.is(99, x.member(3, 6), "99 credits and 2 more");
        x.week(0);
        check.is(99, x.member(0, 6), "99 credits and 1 more");
        check.is(-98, x.member(1, 6), "-99 credits and 1 more");
    }

    private static void undo() {
        check.part("promise 18");
        TandemExchange x = new TandemExchange();
        for (int i = 0; i < 16; i++) {
            x.week(0);
        }
        for (int i = 13; i >= 0; i--) {
            check.is(i, x.undo(), "undo()");
            check.is(i + 2, x.about(2), "about(2) after undo()");
        }
        check.badState(() -> x.undo(), "a fifteenth undo()");
        check.is(2, x.about(2), "about(2)");
        x.match();
        x.settle(5);
        check.is(1, x.undo(), "undo() of an action that changes nothing");
        x.join(0, 0, 5);
        x.want(0, 0);
        check.is(2, x.undo(), "undo() of want()");
        x.test(0, 0, 0);
        x.leave(0);
        check.is(3, x.undo(), "undo() of leave()");
        check.is(5, x.member(0, 6), "member(0, 6)");
        check.is(2, x.undo(), "undo() of test()");
        check.is(1, x.undo(), "undo() of join()");
        check.is(0, x.about(0), "about(0)");
        check.badArgument(() -> x.week(-1), "week(-1)");
        check.badArgument(() -> x.settle(0), "settle(0)");
        check.outOfBounds(() -> x.leave(0), "leave(0)");
        check.is(0, x.undo(), "undo() after calls that throw");
        check.badState(() -> x.undo(), "undo()");
        undoOfPairs();
    }

    private static void undoOfPairs() {
        TandemExchange x = Circles.loaded(Circles.TWO);
        x.pair(0, 1);
        x.week(1);
        x.save(0);
        x.clearText();
        x.part(0);
        check.is(2, x.undo(), "undo() of part()");
        check.memberIs(x, 0, 2, 9, 0, 0, 0, 0, 7, 1, 1, 1);
        check.is(1, x.undo(), "undo() of week()");
        check.memberIs(x, 0, 2, 9, 0, 0, 0, 0, 10, 0, 1, 0);
        check.is(0, x.undo(), "undo() of pair()");
        check.partnersAre(x, NONE, NONE);
        check.is(0, x.clearText(), "clearText(): undo() leaves the text");
        check.is(1, x.restore(0), "restore(0): undo() leaves the slots");
    }

    private static void blocking() {
        check.part("promise 19");
        TandemExchange x = Circles.loaded(Circles.CHAIN);
        for (int i = 0; i < 3; i++) {
            check.is(i, x.blocking(i, false), "blocking(" + i + ", false)");
            check.is(i + 1, x.blocking(i, true), "blocking(" + i + ", true)");
        }
        check.is(NONE, x.blocking(3, false), "blocking(3, false)");
        check.is(NONE, x.blocking(Integer.MAX_VALUE, true), "blocking of the greatest int");
        check.badArgument(() -> x.blocking(-1, false), "blocking(-1, false)");
        TandemExchange square = Circles.loaded(Circles.SQUARE);
        int[] greater = {2, 3, 2, 3};
        for (int i = 0; i < 4; i++) {
            check.is(i / 2, square.blocking(i, false), "blocking(" + i + ", false)");
            check.is(greater[i], square.blocking(i, true), "blocking(" + i + ", true)");
        }
        check.is(NONE, new TandemExchange().blocking(0, false), "blocking(0, false) of nobody");
    }

    private static void bestPartner() {
        check.part("promise 20");
        TandemExchange x = Circles.loaded("Lm0090000m1900000m1950019m1950020m1700099m1700000");
        // For member 0 the scores of 1 to 5 are 90, 94, 95, 94 and 70.
        check.is(3, x.bestPartner(0, false), "bestPartner(0, false)");
        check.is(3, x.bestPartner(0, true), "bestPartner(0, true)");
        check.is(0, x.bestPartner(5, true), "bestPartner(5, true)");
        x.pair(0, 3);
        check.is(3, x.bestPartner(0, false), "bestPartner(0, false) with the present partner");
        check.is(2, x.bestPartner(0, true), "bestPartner(0, true) without the partner");
        check.is(NONE, x.bestPartner(1, true), "bestPartner(1, true)");
        check.is(0, x.bestPartner(1, false), "bestPartner(1, false)");
        check.is(NONE, Circles.loaded("Lm0000000").bestPartner(0, false), "bestPartner of the only one");
        check.outOfBounds(() -> x.bestPartner(6, false), "bestPartner(6, false)");
        check.outOfBounds(() -> x.bestPartner(-1, true), "bestPartner(-1, true)");
        TandemExchange low = new TandemExchange();
        low.join(0, 200, 0);
        low.join(1, 2000, -99);
        for (int i = 0; i < 3; i++) {
            low.match();
            low.week(2);
        }
        check.is(1, low.bestPartner(0, false), "bestPartner with a score below 0");
    }

    private static void best() {
        check.part("promise 21");
        TandemExchange x = Circles.loaded(Circles.CHAIN);
        check.is(2, x.best(0), "best(0)");
        check.is(120, x.best(1), "best(1)");
        x.pair(1, 2);
        check.is(2, x.best(0), "best(0) whoever the partners are");
        check.is(120, x.best(1), "best(1) whoever the partners are");
        x.leave(0);
        check.is(1, x.best(0), "best(0) of three");
        check.is(180, x.best(1), "best(1) of three");
        check.badArgument(() -> x.best(-1), "best(-1)");
        check.badArgument(() -> x.best(2), "best(2)");
        TandemExchange none = new TandemExchange();
        check.is(0, none.best(0), "best(0) of nobody");
        check.is(0, none.best(1), "best(1) of nobody");
        none.join(0, 200, -99);
        check.is(0, none.best(0), "best(0) of one");
        none.join(1, 2000, -99);
        check.is(1, none.best(0), "best(0) with a value below 0");
        check.is(-10, none.best(1), "best(1) with a value below 0");
        TandemExchange many = Circles.loaded("Lm0010000" + "m0070000m1900000".repeat(4));
        check.is(4, many.best(0), "best(0) of nine");
        check.is(640, many.best(1), "best(1) of nine");
        bestOfSwappedPairs();
    }

    /** Matching takes 0 and 1 first for their value, and the sum of the other two ways is greater. */
    private static void bestOfSwappedPairs() {
        TandemExchange x = Circles.loaded("Lm0390000m1930000m0570000m1750000m2999900");
        x.match();
        check.is(120 + 40, x.about(3), "about(3)");
        check.is(160, x.best(1), "best(1)");
        TandemExchange y = Circles.loaded("Lm0050000m1930000m0590000m1700000");
        y.match();
        check.partnersAre(y, 3, 2, 1, 0);
        check.is(2, y.best(0), "best(0)");
        check.is(220, y.best(1), "best(1)");
    }

    private static void missedMost() {
        check.part("promise 22");
        TandemExchange x = Circles.loaded(Circles.CHAIN);
        check.is(1, x.missedMost(), "missedMost() of a chain");
        x.pair(0, 1);
        check.is(1, x.missedMost(), "missedMost() whoever the partners are");
        check.is(0, Circles.loaded(Circles.SQUARE).missedMost(), "missedMost() of equals");
        check.is(NONE, new TandemExchange().missedMost(), "missedMost() of nobody");
        check.is(0, Circles.loaded("Lm0000000").missedMost(), "missedMost() of one");
        TandemExchange low = new TandemExchange();
        low.join(2, 9999, 0);
        low.join(0, 200, -99);
        low.join(1, 2000, -99);
        check.is(1, low.missedMost(), "missedMost(): more pairs are more than a greater sum");
        check.is(2, Circles.loaded("Lm0090000m0090000m1900000").missedMost(), "missedMost(): the only one of a kind");
        TandemExchange best = Circles.loaded("Lm0090000m0090000m1900000m1900099");
        check.is(3, best.missedMost(), "missedMost(): the best of a kind");
    }

    private static void ahead() {
        check.part("promise 23");
        TandemExchange x = Circles.paired(Circles.TWO, 0, 1);
        int[] now = {2, 9, 0, 0, 0, 0, 10, 0, 1, 0, 1};
        int[] afterTwo = {3, 9, 0, 0, 0, 0, 12, 0, 1, 0, 1};
        int[] missedTwo = {2, 9, 0, 0, 0, 0, 4, 2, 1, 2, 1};
        int[] missedThree = {2, 9, 0, 0, 0, 0, 1, 3, NONE, NONE, 1};
        for (int what = 0; what <= 10; what++) {
            check.is(now[what], x.ahead(0, 0, 1, what), "ahead(0, 0, 1, " + what + ")");
            check.is(afterTwo[what], x.ahead(0, 2, 508, what), "ahead(0, 2, 508, " + what + ")");
            check.is(missedTwo[what], x.ahead(0, 2, 1, what), "ahead(0, 2, 1, " + what + ")");
            check.is(missedThree[what], x.ahead(0, 60, 511, what), "ahead(0, 60, 511, " + what + ")");
        }
        check.is(7, x.ahead(0, 60, 0, 0), "ahead(0, 60, 0, 0)");
        check.is(0, x.ahead(0, 60, 0, 10), "ahead(0, 60, 0, 10)");
        check.outOfBounds(() -> x.ahead(2, 0, 0, 0), "ahead(2, 0, 0, 0)");
        check.outOfBounds(() -> x.ahead(-1, -1, -1, -1), "ahead(-1, -1, -1, -1)");
        check.badArgument(() -> x.ahead(0, -1, 0, 0), "ahead(0, -1, 0, 0)");
        check.badArgument(() -> x.ahead(0, 61, 0, 0), "ahead(0, 61, 0, 0)");
        check.badArgument(() -> x.ahead(0, 0, -1, 0), "ahead(0, 0, -1, 0)");
        check.badArgument(() -> x.ahead(0, 0, 512, 0), "ahead(0, 0, 512, 0)");
        check.badArgument(() -> x.ahead(0, 0, 0, -1), "ahead(0, 0, 0, -1)");
        check.badArgument(() -> x.ahead(0, 0, 0, 11), "ahead(0, 0, 0, 11)");
        check.is(0, Circles.loaded(Circles.TWO).ahead(0, 9, 0, 5), "ahead(0, 9, 0, 5) without a pair");
    }

    private static void levelAfter() {
        check.part("promise 24");
        TandemExchange x = Circles.loaded(Circles.TWO);
        int[] weeks = {0, 0, 0, 2, 5, 7, 10, 13, NONE, NONE};
        for (int level = 0; level <= 9; level++) {
            check.is(weeks[level], x.levelAfter(0, level), "levelAfter(0, " + level + ")");
        }
        check.is(2, x.levelAfter(1, 4), "levelAfter(1, 4)");
        check.is(0, x.about(1), "about(1)");
        TandemExchange wide = Circles.loaded("Lm0080000m1980000m1800000");
        check.is(NONE, Circles.loaded("Lm0080000m1980000").levelAfter(0, 1), "levelAfter(0, 1): nobody fits");
        check.is(2, wide.levelAfter(0, 1), "levelAfter(0, 1)");
        check.outOfBounds(() -> x.levelAfter(2, 0), "levelAfter(2, 0)");
        check.outOfBounds(() -> x.levelAfter(-1, 10), "levelAfter(-1, 10)");
        check.badArgument(() -> x.levelAfter(0, -1), "levelAfter(0, -1)");
        check.badArgument(() -> x.levelAfter(0, 10), "levelAfter(0, 10)");
        matchingAheadOfEachWeek();
    }

    /** When the first teacher of 0 no longer fits, a later matching finds the other one. */
    private static void matchingAheadOfEachWeek() {
        TandemExchange x = Circles.loaded("Lm0390000m1600000m1700000");
        check.is(3, x.levelAfter(0, 4), "levelAfter(0, 4)");
        x.pair(0, 1);
        x.week(0);
        x.week(0);
        x.week(0);
        check.is(4, x.member(0, 0), "member(0, 0)");
        check.is(1, x.member(0, 8), "member(0, 8)");
        check.is(7, x.levelAfter(0, 6), "levelAfter(0, 6)");
        check.is(NONE, x.levelAfter(0, 7), "levelAfter(0, 7)");
    }

    private static void partsAfter() {
        check.part("promise 25");
        TandemExchange x = Circles.paired(Circles.TWO, 0, 1);
        check.is(13, x.partsAfter(0, 0), "partsAfter(0, 0)");
        check.is(13, x.partsAfter(1, 508), "partsAfter(1, 508)");
        check.is(3, x.partsAfter(0, 1), "partsAfter(0, 1)");
        check.is(3, x.partsAfter(0, 2), "partsAfter(0, 2)");
        x.week(511);
        check.is(2, x.partsAfter(1, 511), "partsAfter(1, 511)");
        check.is(13, x.partsAfter(1, 0), "partsAfter(1, 0)");
        check.outOfBounds(() -> x.partsAfter(2, 0), "partsAfter(2, 0)");
        check.outOfBounds(() -> x.partsAfter(-1, 512), "partsAfter(-1, 512)");
        check.badArgument(() -> x.partsAfter(0, -1), "partsAfter(0, -1)");
        check.badArgument(() -> x.partsAfter(0, 512), "partsAfter(0, 512)");
        x.part(0);
        check.badState(() -> x.partsAfter(0, 0), "partsAfter(0, 0) without a partner");
        check.badArgument(() -> x.partsAfter(0, 512), "partsAfter(0, 512) without a partner");
    }

    private static void runs(TandemExchange x, int due, int n, long script) {
        check.is(due, x.runScript(n, script), "runScript(" + n + ", " + script + ")");
    }

    private static void runScript() {
        check.part("promise 26");
        TandemExchange x = Circles.loaded(Circles.CHAIN);
        runs(x, NONE, 4, 1010_7010_7100_8001L);
        runs(x, NONE, 4, 1010_2000_1120_7210L);
        runs(x, 2, 4, 1010_1230_1120_8002L);
        runs(x, 1, 2, 1010_1100L);
        runs(x, 1, 3, 3000_2000_8001L);
        runs(x, NONE, 4, 3000_7120_2100_8000L);
        runs(x, NONE, 3, 4001_7010_8001L);
        runs(x, NONE, 2, 4050_7120L);
        runs(x, NONE, 4, 1010_5002_5015_8001L);
        runs(x, 0, 1, 0);
        runs(x, 0, 4, 7);
        runs(x, 0, 2, 3000);
        runs(x, NONE, 3, 6013_9013_9005L);
        runs(x, 2, 3, 6013_9013_9004L);
        runs(x, NONE, 3, 1010_6101_8000L);
        check.is(0, x.about(1), "about(1) after scripts");
        check.badState(() -> x.undo(), "undo() after scripts");
        check.badArgument(() -> x.runScript(0, 0), "runScript(0, 0)");
        check.badArgument(() -> x.runScript(5, 0), "runScript(5, 0)");
        check.badArgument(() -> x.runScript(1, -1), "runScript(1, -1)");
        check.badArgument(() -> x.runScript(1, 10000), "runScript(1, 10000)");
        check.badArgument(() -> x.runScript(3, 1000000000000L), "runScript of 13 digits");
        check.badArgument(() -> x.runScript(4, 10000000000000000L), "runScript of 17 digits");
        check.badArgument(() -> x.runScript(4, Long.MAX_VALUE), "runScript of the greatest long");
        check.badArgument(() -> x.runScript(4, Long.MIN_VALUE), "runScript of the least long");
        runs(x, 0, 4, 9999999999999999L);
    }

    private static void fail(int... commands) {
        for (int command : commands) {
            runs(Circles.loaded(Circles.CHAIN), 0, 1, command);
        }
    }

    private static void succeed(int... commands) {
        for (int command : commands) {
            runs(Circles.loaded(Circles.CHAIN), NONE, 1, command);
        }
    }

    private static void runScriptGroups() {
        succeed(1010, 1100, 1230, 3000, 4001, 4010, 4050, 5000, 5007, 5511, 6000, 6339, 8000, 9005, 9012, 9330);
        fail(0, 1, 999, 1011, 1020, 1000, 1040, 1400, 1090, 1900, 1990, 2000, 2400, 2900, 3001, 3010, 3100);
        fail(4000, 4051, 4099, 4101, 5512, 5999, 6400, 6900, 6040, 6090, 7010, 7000, 7040, 7400, 8001, 8010, 8100);
        fail(9004, 9040, 9400, 9990);
        TandemExchange x = Circles.paired(Circles.CHAIN, 0, 1);
        runs(x, NONE, 1, 2000);
        runs(x, NONE, 1, 2100);
        runs(x, NONE, 1, 7010);
        runs(x, NONE, 1, 7100);
        runs(x, 0, 1, 7011);
        runs(x, 0, 1, 2001);
        runs(x, 0, 1, 2010);
        runs(x, 0, 1, 2200);
        runs(x, 0, 1, 7120);
        runs(x, 0, 1, 1120);
        runs(x, NONE, 1, 8001);
        // A test that takes the fit away breaks the pair up in the copy.
        runs(x, NONE, 2, 6008_8000L);
        runs(x, 1, 2, 6007_8000L);
        runs(x, NONE, 4, 5000_5000_5496_9006L);
        // A test to the present level leaves no progress, so that two meetings with 8 points are too few.
        runs(x, NONE, 4, 6005_5000_5000_9005L);
        runs(x, 3, 4, 5000_5000_5496_9005L);
        // Three weeks missed: the pair is gone, and the absent number is decimal.
        runs(x, NONE, 4, 5001_5001_5001_8000L);
        runs(x, 3, 4, 5010_5001_5508_8000L);
        runs(x, 3, 4, 5100_5100_5100_8000L);
        runs(x, NONE, 4, 5256_5256_5257_8001L);
    }

    private static void simulate() {
        check.part("promise 27");
        check.is(0, new TandemExchange().simulate(0, 1), "simulate(0, 1) of nobody");
        TandemExchange x = Circles.loaded(Circles.TWO);
        x.pair(0, 1);
        for (long seed = -6; seed <= 6; seed++) {
            for (int m = 1; m <= 60; m += 59) {
                check.is(simulated(seed, m), x.simulate(seed, m), "simulate(" + seed + ", " + m + ")");
            }
        }
        check.is(simulated(Long.MIN_VALUE, 7), x.simulate(Long.MIN_VALUE, 7), "simulate of the least long");
        check.is(simulated(Long.MAX_VALUE, 8), x.simulate(Long.MAX_VALUE, 8), "simulate of the greatest long");
        check.is(23, x.about(5), "about(5) after simulations");
        check.is(0, x.about(2), "about(2) after simulations");
        check.is(0, x.undo(), "undo() after simulations");
        check.badArgument(() -> x.simulate(1, 0), "simulate(1, 0)");
        check.badArgument(() -> x.simulate(1, 61), "simulate(1, 61)");
    }

    /** The same rounds, by actions. */
    private static int simulated(long seed, int m) {
        TandemExchange x = Circles.paired(Circles.TWO, 0, 1);
        java.math.BigInteger number = java.math.BigInteger.valueOf(seed);
        for (int i = 0; i < m; i++) {
            number = number.multiply(java.math.BigInteger.valueOf(6364136223846793005L))
                    .add(java.math.BigInteger.valueOf(1442695040888963407L));
            int r = number.shiftRight(33).intValue() & Integer.MAX_VALUE;
            if (r % 4 == 0) {
                x.match();
            }
            x.week(r / 4 % 512);
        }
        return x.about(5);
    }

    private static void save() {
        check.part("promise 28");
        TandemExchange x = Circles.paired(Circles.TWO, 0, 1);
        check.is(0, x.save(0), "save(0)");
        x.week(1);
        check.is(1, x.save(1), "save(1)");
        check.outOfBounds(() -> x.save(2), "save(2)");
        check.outOfBounds(() -> x.save(-1), "save(-1)");
        check.is(1, x.undo(), "undo(): save() is no action");
        check.is(1, x.restore(1), "restore(1)");
        check.memberIs(x, 0, 2, 9, 0, 0, 0, 0, 7, 1, 1, 1);
        check.is(0, x.restore(0), "restore(0)");
        check.memberIs(x, 0, 2, 9, 0, 0, 0, 0, 10, 0, 1, 0);
        x.leave(1);
        check.is(0, x.save(0), "save(0) again");
        check.is(1, x.restore(1), "restore(1)");
        check.is(0, x.restore(0), "restore(0)");
        check.aboutIs(x, 1, 0, 0, 0, 0, 10, 0);
    }

    private static void restore() {
        check.part("promise 29");
        TandemExchange x = Circles.loaded(Circles.TWO);
        check.badState(() -> x.restore(0), "restore(0) of an empty slot");
        x.pair(0, 1);
        x.save(0);
        x.week(0);
        x.week(0);
        check.badState(() -> x.restore(1), "restore(1) of an empty slot");
        check.outOfBounds(() -> x.restore(2), "restore(2)");
        check.outOfBounds(() -> x.restore(-1), "restore(-1)");
        check.is(2, x.undo(), "undo() after restores that throw");
        check.is(0, x.restore(0), "restore(0)");
        check.partnersAre(x, 1, 0);
        check.aboutIs(x, 2, 1, 0, 125, 0, 23, 1);
        check.badState(() -> x.undo(), "undo() after restore()");
        x.want(0, 3);
        check.is(0, x.restore(0), "restore(0): the slot keeps it");
        check.partnersAre(x, 1, 0);
        check.is(17, x.clearText(), "clearText() after restore()");
    }

    /** Five members want what four others teach, and the other way round; all are equally good. */
    private static void nineMembers() {
        check.part("nine members");
        TandemExchange x = Circles.loaded("L" + "m0090000m1900000".repeat(4) + "m0090000");
        check.aboutIs(x, 9, 0, 0, 0, 20, 0, 20);
        for (int a = 0; a < 9; a++) {
            check.is(4 + a % 2, x.member(a, 10), "member(" + a + ", 10)");
            check.is(1 - a % 2, x.bestPartner(a, true), "bestPartner(" + a + ", true)");
        }
        check.is(7, x.blocking(19, false), "blocking(19, false)");
        check.is(8, x.blocking(19, true), "blocking(19, true)");
        check.is(NONE, x.blocking(20, true), "blocking(20, true)");
        check.is(4, x.best(0), "best(0)");
        check.is(720, x.best(1), "best(1)");
        check.is(1, x.missedMost(), "missedMost()");
        check.is(4, x.settle(50), "settle(50)");
        x.undo();
        check.is(4, x.match(), "match()");
        check.aboutIs(x, 9, 4, 0, 720, 0, 0, 20);
        check.is(4, x.week(256), "week(256)");
        check.aboutIs(x, 9, 4, 1, 720, 0, 8, 20);
        x.leave(1);
        check.partnersAre(x, NONE, 2, 1, 4, 3, 6, 5, NONE);
        check.aboutIs(x, 8, 3, 1, 540, 0, 7, 15);
        x.leave(7);
        x.leave(0);
        check.partnersAre(x, 1, 0, 3, 2, 5, 4);
        check.aboutIs(x, 6, 3, 1, 540, 0, 6, 9);
        check.is(0, x.settle(50), "settle(50) without blocking members");
        check.is(6, x.join(1, 9999, 0), "join(1, 9999, 0)");
        check.is(3, x.best(0), "best(0)");
        check.outOfBounds(() -> x.member(7, 0), "member(7, 0)");
        runs(x, 0, 1, 1070);
    }

    private static void questionsChangeNothing() {
        check.part("pairs, forecasts, scripts and simulations change nothing");
        TandemExchange x = Circles.paired(Circles.CHAIN, 0, 1);
        x.week(1);
        x.blocking(1, true);
        x.bestPartner(0, true);
        x.best(1);
        x.missedMost();
        x.ahead(0, 60, 3, 6);
        x.levelAfter(2, 9);
        x.partsAfter(1, 4);
        x.runScript(4, 3000_5000_6009_2000L);
        x.simulate(77, 60);
        check.partnersAre(x, 1, 0, NONE, NONE);
        check.memberIs(x, 0, 5, 2, 0, 0, 0, 0, -3, 1, 1, 1);
        check.memberIs(x, 2, 0, 9, 0, 0, 0, 0, 0, 0, NONE, NONE);
        check.is(1, x.about(2), "about(2)");
        check.is(1, x.undo(), "undo()");
    }
}
