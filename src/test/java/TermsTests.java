/** The sentences of the document's section "Terms" that name a bound: each has a test, on both sides of the bound. */
public final class TermsTests {
    private static final int NONE = TandemExchange.NONE;

    private static final Check check = new Check();

    public static void main(String[] args) {
        membersFromNoneToNine();
        numbersDecreaseByOne();
        levelsFromZeroToNine();
        progressUpToNineteen();
        creditsGoNotBeyondTheirBounds();
        boundsOfCreditsHoldAtAnyTime();
        atLeastTwoLevelsGreater();
        divisionRoundedDown();
        scoresRoundedEachOnItsOwn();
        missedMeetingsInScores();
        noPairAtFirst();
        countOfMeetingsAtFirst();
        blockersHaveSmallerScores();
        blockersAreNoPartnersAndFit();
        matchingAmongSeveral();
        matchingUntilThereIsNone();
        settlingByAtMostSoManySteps();
        settlingTakesTheFirstPair();
        absentMembersWithoutPartners();
        pointsOfAMeeting();
        creditsOfAMeeting();
        eachMemberHasABit();
        pairsThatDoNotFitAnyMore();
        threeMissedInARow();
        weeksAreCounted();
        fourteenStates();
        eachActionIsRemembered();
        actionsThatChangeNothing();
        stateWithoutTextAndSlots();
        check.end();
    }

    private static TandemExchange nine() {
        return Circles.loaded("L" + "m0090000m1900000".repeat(4) + "m0090000");
    }

    /** 0 wants language 0 and 1 wants language 1; each leads by as many levels as told. */
    private static TandemExchange pairWithLeads(int leadOfOne, int leadOfZero) {
        TandemExchange x = new TandemExchange();
        x.join(0, 1000 * (9 - leadOfOne) + 900, 0);
        x.join(1, 9000 + 100 * (9 - leadOfZero), 0);
        x.pair(0, 1);
        return x;
    }

    // ---- members

    private static void membersFromNoneToNine() {
        check.part("there are 0 to 9 members");
        TandemExchange x = new TandemExchange();
        check.is(0, x.about(0), "about(0)");
        for (int i = 0; i < 9; i++) {
            check.is(i, x.join(0, 0, i), "join(0, 0, " + i + ")");
            check.is(i + 1, x.about(0), "about(0)");
            check.is(i, x.member(i, 6), "member(" + i + ", 6)");
        }
        check.badState(() -> x.join(0, 0, 9), "join of a tenth member");
        check.is(8, x.leave(8), "leave(8)");
        check.is(8, x.join(0, 0, 7), "join of a ninth member again");
        for (int i = 9; i > 0; i--) {
            x.leave(0);
        }
        check.is(0, x.about(0), "about(0)");
        check.is(0, x.join(1, 1, 1), "join of a first member again");
        TandemExchange loaded = nine();
        check.badState(() -> loaded.join(0, 0, 0), "join of a tenth member behind load()");
        loaded.clearText();
        Circles.type(loaded, "L" + "m0000000".repeat(8));
        loaded.load();
        check.is(8, loaded.join(0, 0, 0), "join of a ninth member behind load()");
    }

    private static void numbersDecreaseByOne() {
        check.part("the numbers of later members decrease by 1");
        for (int leaver = 0; leaver < 9; leaver++) {
            TandemExchange x = new TandemExchange();
            for (int i = 0; i < 9; i++) {
                x.join(0, 0, i);
            }
            x.leave(leaver);
            for (int a = 0; a < 8; a++) {
                check.is(a < leaver ? a : a + 1, x.member(a, 6), "member(" + a + ", 6) without " + leaver);
            }
        }
        TandemExchange first = nine();
        first.match();
        first.leave(0);
        check.partnersAre(first, NONE, 2, 1, 4, 3, 6, 5, NONE);
        TandemExchange last = nine();
        last.match();
        last.leave(8);
        check.partnersAre(last, 1, 0, 3, 2, 5, 4, 7, 6);
        TandemExchange across = Circles.paired(Circles.SQUARE, 0, 3);
        across.leave(1);
        check.partnersAre(across, 2, NONE, 0);
    }

    private static void levelsFromZeroToNine() {
        check.part("levels are 0 to 9");
        TandemExchange x = new TandemExchange();
        x.join(0, 0, 0);
        x.join(0, 9999, 0);
        x.join(0, 9, 0);
        x.join(0, 9000, 0);
        check.memberIs(x, 0, 0, 0, 0, 0);
        check.memberIs(x, 1, 9, 9, 9, 9);
        check.memberIs(x, 2, 0, 0, 0, 9);
        check.memberIs(x, 3, 9, 0, 0, 0);
        for (int language = 0; language <= 3; language++) {
            x.test(0, language, 99);
            check.is(9, x.member(0, language), "member(0, " + language + ") behind 99 points");
            x.test(0, language, 89);
            check.is(8, x.member(0, language), "member(0, " + language + ") behind 89 points");
            x.test(0, language, 10);
            check.is(1, x.member(0, language), "member(0, " + language + ") behind 10 points");
            x.test(0, language, 9);
            check.is(0, x.member(0, language), "member(0, " + language + ") behind 9 points");
        }
    }

    /** The level and the progress behind a meeting, as level * 100 + progress. */
    private static int learned(int level, int teacher, int progress) {
        TandemExchange x = new TandemExchange();
        x.join(0, 900, 0);
        x.join(1, 1000 * teacher, 0);
        x.test(0, 0, 10 * level + progress / 2);
        x.pair(0, 1);
        x.week(0);
        return 100 * x.member(0, 0) + x.member(0, 5);
    }

    private static void progressUpToNineteen() {
        check.part("progress is 0 to 19, 20 points are a level");
        check.is(419, learned(4, 7, 12), "12 points and 7 more");
        check.is(400, learned(3, 7, 12), "12 points and 8 more");
        check.is(301, learned(2, 7, 12), "12 points and 9 more");
        check.is(804, learned(7, 9, 18), "18 points and 6 more");
        check.is(111, learned(0, 9, 18), "18 points and 13 more");
        check.is(13, learned(0, 9, 0), "0 points and 13 more");
        TandemExchange x = Circles.paired("Lm0090000m1900000", 0, 1);
        x.test(0, 0, 3);
        x.week(0);
        check.memberIs(x, 0, 0, 9, 0, 0, 0, 19);
        check.memberIs(x, 1, 9, 0, 0, 0, 1, 13);
        x.week(0);
        // 19 and 13 are 32.
        check.memberIs(x, 0, 1, 9, 0, 0, 0, 12);
        check.memberIs(x, 1, 9, 1, 0, 0, 1, 6);
    }

    // ---- credits

    /** The credits of 0 behind a week with these members absent. */
    private static int earned(int credits, int absent) {
        TandemExchange x = new TandemExchange();
        x.join(0, 900, credits);
        x.join(1, 9000, 0);
        x.pair(0, 1);
        x.week(absent);
        return x.member(0, 6);
    }

    private static void creditsGoNotBeyondTheirBounds() {
        check.part("credits go not beyond -99 and 99");
        for (int credits = -99; credits <= 99; credits++) {
            check.is(credits == 99 ? 99 : credits + 1, earned(credits, 0), credits + " credits and 1 more");
            check.is(credits >= 97 ? 99 : credits + 2, earned(credits, 2), credits + " credits and 2 more");
            check.is(credits <= -96 ? -99 : credits - 3, earned(credits, 1), credits + " credits and 3 less");
            check.is(credits <= -96 ? -99 : credits - 3, earned(credits, 3), credits + " credits, both absent");
        }
    }

    private static void boundsOfCreditsHoldAtAnyTime() {
        check.part("credits go not beyond -99 and 99 at any time");
        TandemExchange x = new TandemExchange();
        x.join(0, 900, 98);
        x.join(1, 9000, -98);
        x.pair(0, 1);
        check.is(99, x.ahead(0, 2, 2, 6), "ahead(0, 2, 2, 6)");
        check.is(-99, x.ahead(1, 2, 2, 6), "ahead(1, 2, 2, 6)");
        check.is(99, x.ahead(0, 10, 0, 6), "ahead(0, 10, 0, 6)");
        x.week(2);
        check.memberIs(x, 0, 0, 9, 0, 0, 0, 0, 99);
        check.memberIs(x, 1, 9, 0, 0, 0, 1, 0, -99);
        // What went beyond a bound is lost, it does not count later.
        x.week(1);
        check.memberIs(x, 0, 0, 9, 0, 0, 0, 0, 96);
        check.memberIs(x, 1, 9, 0, 0, 0, 1, 0, -97);
        TandemExchange y = new TandemExchange();
        y.join(0, 900, 99);
        y.join(1, 9000, 99);
        y.pair(0, 1);
        // With the seed 5506514589360279573 the first week has all members absent, with the other one nobody is.
        check.is(96 + 96, y.simulate(5506514589360279573L, 1), "simulate with all members absent");
        check.is(99 + 99, y.simulate(-7379792620528906219L, 1), "simulate with nobody absent");
    }

    // ---- fit, score, value

    private static int fits(int firstWants, int firstLevels, int secondWants, int secondLevels) {
        TandemExchange x = new TandemExchange();
        x.join(firstWants, firstLevels, 0);
        x.join(secondWants, secondLevels, 0);
        check.is(x.both(0, 1, 2), x.both(1, 0, 2), "both(1, 0, 2)");
        check.is(x.both(0, 1, 2), x.about(6), "about(6)");
        check.is(x.both(0, 1, 2), x.member(0, 10), "member(0, 10)");
        return x.both(0, 1, 2);
    }

    private static void atLeastTwoLevelsGreater() {
        check.part("two members fit if each is at least 2 levels greater");
        int[] digits = {1000, 100, 10, 1};
        for (int one = 0; one <= 3; one++) {
            for (int two = 0; two <= 3; two++) {
                for (int lead = -1; lead <= 3 && one != two; lead++) {
                    int teacher = 5 * digits[two] + (4 + lead) * digits[one];
                    int learner = 4 * digits[one] + 7 * digits[two];
                    int due = lead >= 2 ? 1 : 0;
                    check.is(due, fits(one, learner, two, teacher), "a lead of " + lead + " in " + one);
                    check.is(due, fits(two, teacher, one, learner), "a lead of " + lead + " in " + one + ", turned");
                }
            }
            check.is(0, fits(one, 9999, one, 0), "both want " + one);
        }
        check.is(1, fits(0, 900, 1, 9000), "leads of 9");
    }

    private static void divisionRoundedDown() {
        check.part("the division is rounded down also of negative numbers");
        for (int credits = -99; credits <= 99; credits++) {
            TandemExchange x = new TandemExchange();
            x.join(0, 0, 0);
            x.join(0, 0, credits);
            check.is((int) Math.floor(credits / 4.0), x.both(0, 1, 0), "the score with " + credits + " credits");
        }
        TandemExchange y = Circles.paired(Circles.SQUARE, 0, 2);
        check.is(90, y.both(0, 2, 0), "the score with 0 credits");
        y.week(4);
        check.is(90 - 5 - 1, y.both(0, 2, 0), "the score with -3 credits and a missed meeting");
    }

    private static void scoresRoundedEachOnItsOwn() {
        check.part("the value is the sum of both scores");
        int[][] rows = {{3, 1, 0}, {3, 3, 0}, {4, 3, 1}, {-1, -1, -2}, {-2, -2, -2}, {-5, 5, -1}, {99, 99, 48},
            {-99, -99, -50}, {-97, -96, -49}};
        for (int[] row : rows) {
            TandemExchange x = new TandemExchange();
            x.join(0, 4200, row[0]);
            x.join(1, 6500, row[1]);
            // The leads are 2 and -3.
            check.is(20 - 30 + row[2], x.both(0, 1, 1), "the value with " + row[0] + " and " + row[1] + " credits");
            check.is(20 - 30 + row[2], x.both(1, 0, 1), "the value, turned");
        }
    }

    private static void missedMeetingsInScores() {
        check.part("a score counts all missed meetings");
        TandemExchange x = Circles.paired(Circles.TWO, 0, 1);
        int[] credits = {7, 4, 1, -2, -5, -8, -11};
        int[] quarters = {1, 1, 0, -1, -2, -2, -3};
        for (int missed = 1; missed <= 7; missed++) {
            x.match();
            x.week(1);
            check.is(missed, x.member(0, 7), "member(0, 7)");
            check.is(credits[missed - 1], x.member(0, 6), "member(0, 6)");
            check.is(60 - 5 * missed + quarters[missed - 1], x.both(1, 0, 0), "both(1, 0, 0)");
        }
        check.is(0, x.member(1, 7), "member(1, 7)");
    }

    // ---- pairs

    private static void noPairAtFirst() {
        check.part("a member has one partner or none");
        TandemExchange x = Circles.loaded(Circles.SQUARE);
        check.partnersAre(x, NONE, NONE, NONE, NONE);
        check.is(NONE, x.member(0, 9), "member(0, 9)");
        x.pair(0, 2);
        check.partnersAre(x, 2, NONE, 0, NONE);
        check.is(0, x.member(0, 9), "member(0, 9)");
        check.is(NONE, x.member(1, 9), "member(1, 9)");
        check.badState(() -> x.pair(0, 3), "a second partner for 0");
        check.badState(() -> x.pair(1, 2), "a second partner for 2");
        check.is(1, x.match(), "match()");
        check.partnersAre(x, 2, 3, 0, 1);
    }

    private static void countOfMeetingsAtFirst() {
        check.part("the count of meetings missed in a row is 0 at first");
        for (int way = 0; way < 3; way++) {
            TandemExchange x = Circles.paired(Circles.TWO, 0, 1);
            x.week(1);
            x.week(2);
            check.is(2, x.member(0, 9), "member(0, 9)");
            check.is(2, x.member(1, 9), "member(1, 9)");
            x.part(1);
            check.is(NONE, x.member(0, 9), "member(0, 9) without a partner");
            if (way == 0) {
                x.pair(1, 0);
            } else if (way == 1) {
                x.match();
            } else {
                x.settle(1);
            }
            check.is(0, x.member(0, 9), "member(0, 9) of a new pair");
            check.is(0, x.member(1, 9), "member(1, 9) of a new pair");
            x.week(3);
            check.is(1, x.week(3), "week(3), the second one of the new pair");
            check.is(0, x.week(3), "week(3), the third one of the new pair");
        }
    }

    /** 1 if 0, whose partner 2 has 40 credits, and 3, whose partner is 1, block; the credits of 0 and 3 are told. */
    private static int blocks(int credits, int creditsOfThree, boolean withOne) {
        TandemExchange x = new TandemExchange();
        x.join(0, 900, credits);
        x.join(0, 900, 40);
        x.join(1, 9000, 40);
        x.join(1, 9000, creditsOfThree);
        x.pair(0, 2);
        if (withOne) {
            x.pair(1, 3);
        }
        check.is(x.both(0, 3, 3), x.both(3, 0, 3), "both(3, 0, 3)");
        return x.both(0, 3, 3);
    }

    private static void blockersHaveSmallerScores() {
        check.part("two block if their partners have smaller scores");
        check.is(0, blocks(99, 39, false), "the partner of 0 has a greater score");
        check.is(0, blocks(99, 40, false), "the partner of 0 has the same score");
        check.is(0, blocks(99, 43, false), "the partner of 0 has the same score by rounding");
        check.is(1, blocks(-99, 44, false), "the partner of 0 has a smaller score");
        check.is(0, blocks(39, 44, true), "the partner of 3 has a greater score");
        check.is(0, blocks(40, 44, true), "the partner of 3 has the same score");
        check.is(0, blocks(43, 44, true), "the partner of 3 has the same score by rounding");
        check.is(1, blocks(44, 44, true), "both partners have smaller scores");
        check.is(0, blocks(44, 43, true), "only the partner of 3 has a smaller score");
    }

    private static void blockersAreNoPartnersAndFit() {
        check.part("two who block are not partners, and fit");
        TandemExchange x = Circles.loaded(Circles.TWO);
        check.is(1, x.both(0, 1, 3), "both(0, 1, 3) without partners");
        x.pair(0, 1);
        check.is(0, x.both(0, 1, 3), "both(0, 1, 3) of partners");
        x.week(511);
        check.is(0, x.both(0, 1, 3), "both(0, 1, 3) of partners with worse scores");
        check.is(0, x.about(4), "about(4)");
        x.part(0);
        check.is(1, x.about(4), "about(4) without partners");
        TandemExchange y = Circles.loaded("Lm0520000m1600000");
        check.is(0, y.both(0, 1, 3), "both(0, 1, 3) with a lead of 1");
        y.test(1, 0, 70);
        check.is(1, y.both(0, 1, 3), "both(0, 1, 3) with a lead of 2");
    }

    // ---- matching and settling

    private static void matchingAmongSeveral() {
        check.part("matching takes the greatest value, among several the smallest numbers");
        // One learner and three teachers; then three learners and one teacher.
        int[][] credits = {{0, 0, 0, 1}, {0, 3, 0, 1}, {0, 4, 0, 2}, {0, 4, 4, 2}, {3, 4, 7, 2}, {-1, 0, 3, 2},
            {-1, -2, -4, 1}, {-9, -8, -5, 2}, {0, 4, 8, 3}, {8, 4, 8, 1}};
        for (int[] row : credits) {
            TandemExchange teachers = new TandemExchange();
            teachers.join(0, 900, 0);
            TandemExchange learners = new TandemExchange();
            for (int i = 0; i < 3; i++) {
                teachers.join(1, 9000, row[i]);
                learners.join(0, 900, row[i]);
            }
            learners.join(1, 9000, 0);
            check.is(1, teachers.match(), "match()");
            check.is(row[3], teachers.member(0, 8), "the partner of 0");
            check.is(1, learners.match(), "match()");
            check.is(row[3] - 1, learners.member(3, 8), "the partner of 3");
        }
    }

    private static void matchingUntilThereIsNone() {
        check.part("matching is repeated until there is none");
        TandemExchange x = nine();
        check.is(4, x.match(), "match() of nine");
        check.is(0, x.match(), "match() again");
        check.is(4, x.about(1), "about(1)");
        check.is(NONE, x.member(8, 8), "member(8, 8)");
        // A pair that is worse than others stays.
        TandemExchange y = Circles.paired("Lm0790000m0090000m1900000m1900000", 0, 2);
        check.is(1, y.match(), "match() beside a pair");
        check.partnersAre(y, 2, 3, 0, 1);
        TandemExchange z = Circles.paired("Lm0090000m0090000m1900000", 1, 2);
        check.is(0, z.match(), "match() with one who is free");
        check.partnersAre(z, NONE, 2, 1);
        // Values below 0 count as any other.
        TandemExchange low = new TandemExchange();
        low.join(0, 200, -99);
        low.join(1, 2000, -99);
        low.join(1, 2000, -96);
        check.is(-9, low.both(0, 2, 1), "both(0, 2, 1)");
        check.is(1, low.match(), "match() with values below 0");
        check.partnersAre(low, 2, NONE, 0);
    }

    /** In a circle of three each one prefers the next one, so that there are always two who block. */
    private static void settlingByAtMostSoManySteps() {
        check.part("settling has at most k steps");
        String three = "Lm0079000m1907000m2790000";
        int[][] partners = {{2, NONE, 0}, {1, 0, NONE}, {NONE, 2, 1}};
        for (int k = 1; k <= 50; k++) {
            TandemExchange x = Circles.loaded(three);
            check.is(k, x.settle(k), "settle(" + k + ")");
            check.partnersAre(x, partners[k % 3]);
            check.is(1, x.about(4), "about(4)");
        }
        TandemExchange y = Circles.loaded(Circles.CHAIN);
        check.is(2, y.settle(3), "settle(3) with two steps to do");
        check.is(0, y.settle(1), "settle(1) with none to do");
        check.is(2, Circles.loaded(Circles.CHAIN).settle(2), "settle(2) with two steps to do");
        check.is(1, Circles.loaded(Circles.CHAIN).settle(1), "settle(1) with two steps to do");
    }

    private static void settlingTakesTheFirstPair() {
        check.part("settling takes the smallest first number, then the smallest second one");
        TandemExchange nested = Circles.loaded("Lm0090000m2000900m3009000m1900000");
        check.is(1, nested.settle(1), "settle(1): 0 and 3 are ahead of 1 and 2");
        check.partnersAre(nested, 3, NONE, NONE, 0);
        check.is(1, nested.settle(1), "settle(1) of 1 and 2");
        check.partnersAre(nested, 3, 2, 1, 0);
        // 3 is better for 0, but 2 comes first; and the partner up to now has none then.
        TandemExchange y = Circles.loaded("Lm0090000m0090000m1800000m1900000");
        y.settle(1);
        check.partnersAre(y, 2, NONE, 0, NONE);
        y.settle(1);
        check.partnersAre(y, 3, NONE, NONE, 0);
        y.settle(1);
        check.partnersAre(y, 3, 2, 1, 0);
        check.is(0, y.settle(1), "settle(1) without blocking members");
    }

    // ---- a week

    private static void absentMembersWithoutPartners() {
        check.part("for members without partners it does not matter whether they are absent");
        for (int absent : new int[] {0, 1, 2, 4, 8, 15, 511}) {
            TandemExchange x = Circles.loaded(Circles.SQUARE);
            check.is(0, x.week(absent), "week(" + absent + ")");
            for (int a = 0; a < 4; a++) {
                check.memberIs(x, a, a < 2 ? 0 : 9, a < 2 ? 9 : 0, 0, 0, a < 2 ? 0 : 1, 0, 0, 0, NONE, NONE);
            }
        }
        TandemExchange y = Circles.paired(Circles.SQUARE, 0, 2);
        y.week(2 + 8);
        check.memberIs(y, 0, 0, 9, 0, 0, 0, 13, 1, 0, 2, 0);
        check.memberIs(y, 1, 0, 9, 0, 0, 0, 0, 0, 0, NONE, NONE);
        check.memberIs(y, 2, 9, 0, 0, 0, 1, 13, 1, 0, 0, 0);
        check.memberIs(y, 3, 9, 0, 0, 0, 1, 0, 0, 0, NONE, NONE);
    }

    private static void pointsOfAMeeting() {
        check.part("each gets 4 points plus the difference of levels");
        for (int one = 2; one <= 9; one++) {
            for (int two = 2; two <= 9; two++) {
                TandemExchange x = pairWithLeads(one, two);
                x.week(0);
                check.memberIs(x, 0, 9 - one, 9, 0, 0, 0, 4 + one, 1, 0);
                check.memberIs(x, 1, 9, 9 - two, 0, 0, 1, 4 + two, 1, 0);
            }
        }
    }

    private static void creditsOfAMeeting() {
        check.part("credits and counts of a week");
        // Who is absent; the credits of 0 and 1, their missed meetings, those missed in a row, the progress.
        int[][] rows = {{0, 1, 1, 0, 0, 0, 13}, {1, -3, 2, 1, 0, 1, 0}, {2, 2, -3, 0, 1, 1, 0},
            {3, -3, -3, 1, 1, 1, 0}};
        for (int[] row : rows) {
            TandemExchange x = pairWithLeads(9, 9);
            x.week(row[0]);
            check.memberIs(x, 0, 0, 9, 0, 0, 0, row[6], row[1], row[3], 1, row[5]);
            check.memberIs(x, 1, 9, 0, 0, 0, 1, row[6], row[2], row[4], 0, row[5]);
        }
    }

    private static void eachMemberHasABit() {
        check.part("each of the nine members has a bit of its own");
        String[] texts = {"L" + "m0090000m1900000".repeat(4) + "m0090000", "Lm0090000" + "m0090000m1900000".repeat(4)};
        // The one who is left over is 8 in the first circle, and 7 in the second one.
        for (int i = 0; i < 2; i++) {
            for (int absent = 0; absent < 9; absent++) {
                TandemExchange x = Circles.loaded(texts[i]);
                x.match();
                x.week(1 << absent);
                for (int a = 0; a < 9; a++) {
                    int due = a == absent && a != 8 - i ? 1 : 0;
                    check.is(due, x.member(a, 7), "member(" + a + ", 7) behind week(" + (1 << absent) + ")");
                }
            }
        }
    }

    private static void pairsThatDoNotFitAnyMore() {
        check.part("a pair that does not fit any more breaks up");
        for (int turn = 0; turn < 2; turn++) {
            for (int lead = 2; lead <= 4; lead++) {
                for (int progress = 0; progress <= 18; progress += 2) {
                    TandemExchange x = turn == 0 ? pairWithLeads(lead, 9) : pairWithLeads(9, lead);
                    x.test(turn, turn, 10 * (9 - lead) + progress / 2);
                    boolean rises = progress + 4 + lead >= 20;
                    int due = lead == 2 && rises ? 0 : 1;
                    String name = "a lead of " + lead + " and " + progress + " points";
                    check.is(due, x.week(0), "week(0) with " + name);
                    check.is(due, x.about(1), "about(1) with " + name);
                    check.is(due == 0 ? NONE : 1, x.member(0, 8), "member(0, 8) with " + name);
                    check.is(due == 0 ? NONE : 0, x.member(1, 8), "member(1, 8) with " + name);
                }
            }
        }
    }

    private static void threeMissedInARow() {
        check.part("a pair that has missed 3 meetings in a row breaks up");
        int[][] weeks = {{1, 1, 1}, {2, 2, 2}, {3, 3, 3}, {1, 2, 3}, {2, 1, 1}};
        for (int[] absent : weeks) {
            TandemExchange x = pairWithLeads(9, 9);
            check.is(1, x.week(absent[0]), "the first week");
            check.is(1, x.week(absent[1]), "the second week");
            check.is(2, x.member(1, 9), "member(1, 9)");
            check.is(0, x.week(absent[2]), "the third week");
            check.partnersAre(x, NONE, NONE);
        }
        TandemExchange y = pairWithLeads(9, 9);
        for (int i = 0; i < 3; i++) {
            y.week(1);
            check.is(1, y.week(2), "two weeks missed");
            check.is(2, y.member(0, 9), "member(0, 9)");
            check.is(1, y.week(0), "a meeting between them");
            check.is(0, y.member(0, 9), "member(0, 9) behind a meeting");
        }
        y.week(1);
        y.week(2);
        check.is(0, y.week(1), "a third week missed in a row");
    }

    private static void weeksAreCounted() {
        check.part("the count of weeks is 0 at first");
        TandemExchange x = new TandemExchange();
        check.is(0, x.about(2), "about(2)");
        for (int i = 1; i <= 200; i++) {
            x.week(i % 512);
            check.is(i, x.about(2), "about(2)");
        }
        x.match();
        x.join(0, 0, 0);
        x.settle(50);
        check.is(200, x.about(2), "about(2) behind other actions");
        TandemExchange y = new TandemExchange();
        for (int i = 0; i < 511; i++) {
            y.week(0);
        }
        check.is(511, y.about(2), "about(2), the call 512");
    }

    // ---- undo

    private static void fourteenStates() {
        check.part("at most 14 states are remembered");
        for (int actions = 0; actions <= 30; actions++) {
            TandemExchange x = new TandemExchange();
            for (int i = 0; i < actions; i++) {
                x.week(0);
            }
            int remembered = Math.min(actions, 14);
            for (int i = 1; i <= remembered; i++) {
                check.is(remembered - i, x.undo(), "undo() behind " + actions + " actions");
                check.is(actions - i, x.about(2), "about(2) behind " + actions + " actions");
            }
            check.badState(() -> x.undo(), "one more undo() behind " + actions + " actions");
            x.week(0);
            check.is(0, x.undo(), "undo() of a new action");
        }
        // States that were taken back make room for others.
        TandemExchange y = new TandemExchange();
        for (int i = 0; i < 14; i++) {
            y.week(0);
        }
        y.undo();
        y.week(0);
        check.is(13, y.undo(), "undo() behind an action in the place of another one");
        check.is(13, y.about(2), "about(2)");
    }

    private static void eachActionIsRemembered() {
        check.part("before each action the state is remembered");
        Twins.Call[] actions = {
            x -> x.join(3, 9876, -54), x -> x.leave(0), x -> x.want(0, 3), x -> x.test(0, 0, 55),
            x -> x.test(0, 1, 55), x -> x.test(0, 2, 55), x -> x.test(0, 3, 55), x -> x.pair(1, 3), x -> x.part(2),
            x -> x.match(), x -> x.settle(1), x -> x.week(0), x -> x.week(1), x -> x.week(4)};
        for (int i = 0; i < actions.length; i++) {
            TandemExchange x = Circles.paired("Lm0098701m0098702m1917603m1917604", 0, 2);
            x.week(2);
            x.week(1);
            String before = Twins.state(x);
            actions[i].on(x);
            check.that(!Twins.state(x).equals(before), "action " + i + " changed nothing");
            check.is(3, x.undo(), "undo() of action " + i);
            check.that(Twins.state(x).equals(before), "undo() of action " + i + " left " + Twins.state(x));
        }
    }

    private static void actionsThatChangeNothing() {
        check.part("each call is an action, also if nothing becomes different");
        TandemExchange x = Circles.loaded("Lm0000000");
        x.want(0, 0);
        x.test(0, 1, 0);
        x.test(0, 0, 0);
        x.match();
        x.settle(50);
        check.is(4, x.undo(), "undo() behind five actions");
        for (int i = 3; i >= 0; i--) {
            check.is(i, x.undo(), "undo()");
        }
        check.badState(() -> x.undo(), "undo()");
        TandemExchange empty = new TandemExchange();
        empty.match();
        empty.settle(1);
        check.is(1, empty.undo(), "undo() in an empty circle");
    }

    private static void stateWithoutTextAndSlots() {
        check.part("the state is everything but the text and the save slots");
        TandemExchange x = Circles.loaded(Circles.TWO);
        x.pair(0, 1);
        x.append('m');
        x.save(1);
        x.week(1);
        check.is(1, x.undo(), "undo() of week()");
        check.is(18, x.errorPosition(), "errorPosition(): undo() leaves the text");
        check.is(0, x.undo(), "undo() of pair(): append() and save() are no actions");
        check.partnersAre(x, NONE, NONE);
        check.is(0, x.restore(1), "restore(1): undo() leaves the slots");
        check.partnersAre(x, 1, 0);
        check.badState(() -> x.undo(), "undo(): restore() is no action");
        x.clearText();
        x.append('L');
        x.week(0);
        check.is(0, x.load(), "load()");
        check.badState(() -> x.undo(), "undo(): load() is no action");
    }
}
