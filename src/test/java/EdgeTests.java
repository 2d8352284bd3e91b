/** The bounds that the document's promises name, promise by promise; RefusalTests has those of the arguments. */
public final class EdgeTests {
    private static final int NONE = TandemExchange.NONE;

    // 0 and 1 teach each other from level 0 on; both rise to these levels with nobody absent.
    private static final String WIDE = "Lm0090000m1900000";
    private static final int[] WEEKS_TO_LEVEL = {0, 2, 4, 5, 7, 10, 12, 15, 18, NONE};

    private static final Check check = new Check();

    public static void main(String[] args) {
        lengthsOfTheText();
        charactersOfTheText();
        textsThatEndTooSoon();
        charactersBehindNineMembers();
        loadsOfNoneToNine();
        numbersOfTheCircle();
        numbersOfMembers();
        scoresAtTheirBounds();
        creditsOfOneWhoLeaves();
        wishesThatKeepAPair();
        testsOfTheLearner();
        testsOfTheTeacher();
        progressOfATest();
        valuesOfNewPairs();
        pairsOfAWeek();
        lastPairThatBlocks();
        bestPartners();
        bestMatchings();
        sumFarBelowZero();
        missedMostAmongSeveral();
        weeksAhead();
        weeksToALevel();
        weeksOfWaiting();
        weeksToPart();
        allGroupsOfAScript();
        effectsInAScript();
        placesInAScript();
        roundsOfASimulation();
        twoSlots();
        check.end();
    }

    private static TandemExchange nine() {
        return Circles.loaded("L" + "m0090000m1900000".repeat(4) + "m0090000");
    }

    // ---- promises 2 to 5: the text

    private static void lengthsOfTheText() {
        check.part("promises 2 and 3: 0 to 90 characters");
        TandemExchange x = new TandemExchange();
        check.is(0, x.clearText(), "clearText()");
        for (int i = 1; i <= 90; i++) {
            check.is(i, x.append(i), "append(" + i + ")");
        }
        check.badState(() -> x.append(91), "append of a character too many");
        check.is(90, x.clearText(), "clearText() of 90 characters");
        check.is(0, x.clearText(), "clearText() again");
        check.is(1, x.append(0), "append(0)");
        check.is(1, x.clearText(), "clearText() of one character");
    }

    private static String allowedAt(int i) {
        if (i == 0) {
            return "L";
        }
        switch (i % 8) {
            case 1: return "m";
            case 2: return "0123";
            default: return "0123456789";
        }
    }

    private static void charactersOfTheText() {
        check.part("promise 4: the first character that is not allowed");
        String text = "L" + "m3999999".repeat(9);
        for (int i = 0; i < text.length(); i++) {
            for (int c = 0; c <= 255; c++) {
                TandemExchange x = Circles.withText(text.substring(0, i) + (char) c);
                boolean allowed = allowedAt(i).indexOf(c) >= 0;
                int due = !allowed ? i : i % 8 == 0 ? NONE : i + 1;
                check.is(due, x.errorPosition(), "errorPosition() with " + c + " at " + i);
                // What follows is not looked at.
                Circles.type(x, "x");
                check.is(allowed ? i + 1 : i, x.errorPosition(), "errorPosition() with " + c + " at " + i + " and x");
            }
        }
    }

    private static void textsThatEndTooSoon() {
        check.part("promises 4 and 5: texts that end too soon");
        TandemExchange x = new TandemExchange();
        String text = "L" + "m0123456".repeat(9);
        for (int length = 0; length <= text.length(); length++) {
            if (length > 0) {
                x.append(text.charAt(length - 1));
            }
            boolean whole = length % 8 == 1;
            check.is(whole ? NONE : length, x.errorPosition(), "errorPosition() of " + length + " characters");
            if (whole) {
                check.is(length / 8, x.load(), "load() of " + length + " characters");
            } else {
                check.badState(() -> x.load(), "load() of " + length + " characters");
            }
            check.is(length == 0 ? 0 : (length - 1) / 8, x.about(0), "about(0) behind it");
        }
    }

    private static void charactersBehindNineMembers() {
        check.part("promise 4: at most 9 members");
        for (int c = 0; c <= 255; c++) {
            TandemExchange x = Circles.withText("L" + "m0000000".repeat(9));
            check.is(NONE, x.errorPosition(), "errorPosition() of nine members");
            x.append(c);
            check.is(73, x.errorPosition(), "errorPosition() of nine members and " + c);
        }
        String ten = "L" + "m0000000".repeat(10);
        check.is(73, Circles.withText(ten).errorPosition(), "errorPosition() of ten members");
        check.is(73, Circles.withText(ten + "m0000000m").errorPosition(), "errorPosition() of 90 characters");
        check.is(72, Circles.withText(ten.substring(0, 72)).errorPosition(), "the last digit is missing");
        check.is(72, Circles.withText(ten.substring(0, 72) + "m").errorPosition(), "the last digit is an m");
    }

    private static void loadsOfNoneToNine() {
        check.part("promise 5: 0 to 9 members");
        for (int n = 0; n <= 9; n++) {
            TandemExchange x = nine();
            x.match();
            x.week(3);
            x.week(0);
            x.clearText();
            Circles.type(x, "L" + "m3908099".repeat(n));
            check.is(n, x.load(), "load() of " + n + " members");
            check.aboutIs(x, n, 0, 0, 0, 0, 99 * n, 0);
            for (int a = 0; a < n; a++) {
                check.memberIs(x, a, 9, 0, 8, 0, 3, 0, 99, 0, NONE, NONE, 0);
            }
            int next = n;
            check.outOfBounds(() -> x.member(next, 0), "member(" + n + ", 0)");
            check.is(1 + 8 * n, x.clearText(), "clearText(): load() keeps the text");
        }
        check.memberIs(Circles.loaded("Lm0000000"), 0, 0, 0, 0, 0, 0, 0, 0, 0);
        check.memberIs(Circles.loaded("Lm1123409"), 0, 1, 2, 3, 4, 1, 0, 9, 0);
        check.memberIs(Circles.loaded("Lm2432190"), 0, 4, 3, 2, 1, 2, 0, 90, 0);
    }

    // ---- promises 6 to 8: what there is

    private static void numbersOfTheCircle() {
        check.part("promise 6: no numbers and great ones");
        check.aboutIs(new TandemExchange(), 0, 0, 0, 0, 0, 0, 0);
        for (int credits = -99; credits <= 99; credits += 198) {
            TandemExchange x = new TandemExchange();
            for (int i = 0; i < 9; i++) {
                x.join(i % 2, i % 2 == 0 ? 900 : 9000, credits);
            }
            // 5 times 4 members fit; a score is 90 and a quarter of the credits, rounded down.
            check.aboutIs(x, 9, 0, 0, 0, 20, 9 * credits, 20);
            x.match();
            int score = credits < 0 ? 90 - 25 : 90 + 24;
            check.aboutIs(x, 9, 4, 0, 8 * score, 0, 9 * credits, 20);
        }
        TandemExchange low = new TandemExchange();
        low.join(0, 200, -99);
        low.join(1, 2000, -99);
        check.is(0, low.about(3), "about(3) without pairs");
        low.match();
        check.is(-10, low.about(3), "about(3) with a value below 0");
    }

    private static void numbersOfMembers() {
        check.part("promise 7: no partner, and as many who fit as there can be");
        TandemExchange x = Circles.loaded("Lm0099900" + "m1900000m2900000m3900000m2900000".repeat(2));
        check.is(8, x.member(0, 10), "member(0, 10)");
        check.is(1, x.member(1, 10), "member(1, 10)");
        check.is(0, Circles.loaded("Lm0099900").member(0, 10), "member(0, 10) of the only one");
        check.is(NONE, x.member(8, 8), "member(8, 8)");
        check.is(NONE, x.member(8, 9), "member(8, 9)");
        x.pair(8, 0);
        check.is(0, x.member(8, 8), "member(8, 8)");
        check.is(8, x.member(0, 8), "member(0, 8)");
        check.is(0, x.member(8, 9), "member(8, 9)");
        check.is(8, x.member(0, 10), "member(0, 10) of one who has a partner");
        x.part(8);
        check.is(NONE, x.member(8, 8), "member(8, 8) behind part()");
        check.is(NONE, x.member(0, 9), "member(0, 9) behind part()");
    }

    private static void scoresAtTheirBounds() {
        check.part("promise 8: the greatest and the smallest scores");
        TandemExchange x = new TandemExchange();
        x.join(0, 0, -99);
        x.join(0, 9000, 99);
        check.is(90 + 24, x.both(0, 1, 0), "both(0, 1, 0)");
        check.is(-90 - 25, x.both(1, 0, 0), "both(1, 0, 0)");
        check.is(-1, x.both(0, 1, 1), "both(0, 1, 1)");
        check.is(0, x.both(0, 1, 2), "both(0, 1, 2)");
        check.is(0, x.both(0, 1, 3), "both(0, 1, 3)");
        TandemExchange y = new TandemExchange();
        y.join(3, 1000, 99);
        y.join(0, 9, 99);
        check.is(114, y.both(0, 1, 0), "both(0, 1, 0) with a lead of 9");
        check.is(10 + 24, y.both(1, 0, 0), "both(1, 0, 0) with a lead of 1");
        check.is(0, y.both(0, 1, 2), "both(0, 1, 2)");
    }

    // ---- promises 10 to 17: actions

    private static void creditsOfOneWhoLeaves() {
        check.part("promise 10: credits from -99 to 99");
        for (int credits : new int[] {-99, -1, 0, 1, 99}) {
            TandemExchange x = new TandemExchange();
            x.join(0, 0, credits);
            check.is(credits, x.leave(0), "leave(0)");
            check.is(0, x.about(0), "about(0)");
        }
    }

    private static void wishesThatKeepAPair() {
        check.part("promise 11: a pair that does not fit any more breaks up");
        for (int lead = 0; lead <= 3; lead++) {
            for (int turn = 0; turn < 2; turn++) {
                TandemExchange x = Circles.paired(turn == 0 ? "Lm0093000m1900000" : "Lm1900000m0093000", 0, 1);
                x.week(0);
                x.test(1 - turn, 2, 10 * (3 + lead));
                check.is(0, x.want(turn, 2), "want(" + turn + ", 2)");
                check.is(lead >= 2 ? 1 : 0, x.about(1), "about(1) with a lead of " + lead);
                check.is(lead >= 2 ? turn : NONE, x.member(1 - turn, 8), "the partner with a lead of " + lead);
                check.memberIs(x, turn, 0, 9, 3, 0, 2, 0, 1);
                check.is(13, x.member(1 - turn, 5), "the partner's progress");
            }
        }
        TandemExchange same = Circles.paired(WIDE, 0, 1);
        same.week(0);
        same.week(1);
        check.is(0, same.want(0, 0), "want(0, 0): the same language");
        check.memberIs(same, 0, 0, 9, 0, 0, 0, 0, -2, 1, 1, 1);
        check.memberIs(same, 1, 9, 0, 0, 0, 1, 13, 3, 0, 0, 1);
    }

    private static void testsOfTheLearner() {
        check.part("promise 12: a learner who is too good for the teacher");
        for (int points = 0; points <= 99; points++) {
            TandemExchange x = Circles.paired("Lm0090000m1600000", 0, 1);
            check.is(0, x.test(0, 0, points), "test(0, 0, " + points + ")");
            check.is(points <= 49 ? 1 : NONE, x.member(0, 8), "member(0, 8) behind " + points + " points");
            check.is(points <= 49 ? 0 : NONE, x.member(1, 8), "member(1, 8) behind " + points + " points");
            TandemExchange y = Circles.paired("Lm1600000m0090000", 0, 1);
            y.test(1, 0, points);
            check.is(points <= 49 ? 1 : 0, y.about(1), "about(1) behind " + points + " points");
        }
    }

    private static void testsOfTheTeacher() {
        check.part("promise 12: a teacher who is not good enough any more");
        for (int points = 0; points <= 99; points++) {
            TandemExchange x = Circles.paired("Lm0390000m1900000", 0, 1);
            check.is(9, x.test(1, 0, points), "test(1, 0, " + points + ")");
            check.is(points >= 50 ? 1 : NONE, x.member(0, 8), "member(0, 8) behind " + points + " points");
            check.is(points >= 50 ? 0 : NONE, x.member(1, 8), "member(1, 8) behind " + points + " points");
            check.is(0, x.member(1, 5), "member(1, 5): no test in the language that 1 wants");
        }
        TandemExchange others = Circles.paired(Circles.SQUARE, 0, 2, 1, 3);
        others.test(0, 0, 99);
        check.partnersAre(others, NONE, 3, NONE, 1);
    }

    private static void progressOfATest() {
        check.part("promise 12: the level is a tenth, the progress twice the rest");
        for (int points = 0; points <= 99; points++) {
            for (int language = 0; language <= 3; language++) {
                TandemExchange x = Circles.paired(WIDE, 0, 1);
                x.week(0);
                int previous = language == 1 ? 9 : 0;
                check.is(previous, x.test(0, language, points), "test(0, " + language + ", " + points + ")");
                check.is(points / 10, x.member(0, language), "the level behind " + points + " points");
                check.is(language == 0 ? 2 * (points % 10) : 13, x.member(0, 5), "the progress behind " + points);
            }
        }
    }

    private static void valuesOfNewPairs() {
        check.part("promise 13: values of new pairs, also below 0");
        int[][] rows = {{-99, -99, -10}, {-80, -79, 0}, {-80, -80, 0}, {-80, -81, -1}, {-77, -76, 1}, {99, 99, 88}};
        for (int[] row : rows) {
            TandemExchange x = new TandemExchange();
            x.join(0, 200, row[0]);
            x.join(1, 2000, row[1]);
            check.is(row[2], x.pair(0, 1), "pair(0, 1) with " + row[0] + " and " + row[1] + " credits");
            check.is(row[2], x.about(3), "about(3)");
        }
        TandemExchange y = Circles.loaded("Lm0770000m1980000");
        check.badState(() -> y.pair(0, 1), "pair(0, 1) with a lead of -1");
        y.test(1, 1, 60);
        check.badState(() -> y.pair(0, 1), "pair(0, 1) with a lead of 1");
        y.test(1, 1, 50);
        check.is(40, y.pair(0, 1), "pair(0, 1) with leads of 2");
    }

    private static void pairsOfAWeek() {
        check.part("promises 15 and 17: 0 to 4 pairs");
        for (int pairs = 0; pairs <= 4; pairs++) {
            TandemExchange x = Circles.loaded("Lm3333300" + "m0090000m1900000".repeat(pairs));
            check.is(pairs, x.match(), "match()");
            check.is(pairs, x.week(511), "week(511)");
            check.is(pairs, x.week(511), "week(511) again");
            // The pairs 1 and 2, 3 and 4 have a meeting now, if there are so many.
            check.is(Math.min(pairs, 2), x.week(511 & ~(2 + 4 + 8 + 16)), "the third week");
            check.is(Math.min(pairs, 2), x.about(1), "about(1)");
        }
    }

    // ---- promises 19 to 22: pairs

    private static void lastPairThatBlocks() {
        check.part("promise 19: the first pair, the last one, and none");
        TandemExchange x = nine();
        int i = 0;
        for (int a = 0; a < 9; a++) {
            for (int b = a + 1; b < 9; b += 2) {
                check.is(a, x.blocking(i, false), "blocking(" + i + ", false)");
                check.is(b, x.blocking(i, true), "blocking(" + i + ", true)");
                i++;
            }
        }
        check.is(20, i, "the pairs that block");
        for (int beyond : new int[] {20, 21, Integer.MAX_VALUE}) {
            check.is(NONE, x.blocking(beyond, false), "blocking(" + beyond + ", false)");
            check.is(NONE, x.blocking(beyond, true), "blocking(" + beyond + ", true)");
        }
        TandemExchange one = Circles.loaded(Circles.TWO);
        check.is(0, one.blocking(0, false), "blocking(0, false) of one pair");
        check.is(1, one.blocking(0, true), "blocking(0, true) of one pair");
        check.is(NONE, one.blocking(1, false), "blocking(1, false) of one pair");
        one.match();
        check.is(NONE, one.blocking(0, true), "blocking(0, true) of partners");
    }

    private static void bestPartners() {
        check.part("promise 20: the greatest score, among several the smallest number");
        int[][] rows = {{0, 0, 0, 1}, {0, 3, 3, 1}, {0, 4, 7, 2}, {0, 3, 4, 3}, {-1, -4, -4, 1}, {-5, -4, -1, 2}};
        for (int[] row : rows) {
            TandemExchange x = new TandemExchange();
            x.join(0, 900, 0);
            for (int i = 0; i < 3; i++) {
                x.join(1, 9000, row[i]);
            }
            check.is(row[3], x.bestPartner(0, false), "bestPartner(0, false)");
            check.is(row[3], x.bestPartner(0, true), "bestPartner(0, true)");
            x.pair(row[3], 0);
            check.is(row[3], x.bestPartner(0, false), "bestPartner(0, false): the present partner");
            check.that(x.bestPartner(0, true) != row[3], "bestPartner(0, true): not the present partner");
            check.is(NONE, x.bestPartner(row[3] % 3 + 1, true), "bestPartner(a, true): 0 is not free");
            check.is(0, x.bestPartner(row[3] % 3 + 1, false), "bestPartner(a, false)");
        }
        TandemExchange levels = Circles.loaded("Lm0190000m1700019m1800000m1910000m1600099");
        check.is(3, levels.bestPartner(0, false), "bestPartner(0, false) by levels");
        TandemExchange y = Circles.loaded("Lm0520000m1600099m1700000");
        check.is(2, y.bestPartner(0, false), "bestPartner(0, false): a lead of 1 is too small");
        check.is(NONE, y.bestPartner(1, false), "bestPartner(1, false)");
    }

    private static void bestMatchings() {
        check.part("promise 21: 0 to 4 pairs, and sums below 0");
        for (int pairs = 0; pairs <= 4; pairs++) {
            TandemExchange x = Circles.loaded("Lm3333300" + "m0090000m1900000".repeat(pairs));
            check.is(pairs, x.best(0), "best(0)");
            check.is(180 * pairs, x.best(1), "best(1)");
        }
        TandemExchange low = new TandemExchange();
        for (int i = 0; i < 4; i++) {
            low.join(0, 200, -99);
            low.join(1, 2000, -99);
            check.is(i + 1, low.best(0), "best(0)");
            check.is(-10 * (i + 1), low.best(1), "best(1)");
        }
        // Two pairs of 40 count for more than one pair of 180.
        TandemExchange chain = Circles.loaded("Lm0720000m1900000m0090000m1270000");
        check.is(2, chain.best(0), "best(0) of a chain");
        check.is(80, chain.best(1), "best(1) of a chain");
        TandemExchange even = new TandemExchange();
        even.join(0, 200, -80);
        even.join(1, 2000, -80);
        check.is(1, even.best(0), "best(0) with a sum of 0");
        check.is(0, even.best(1), "best(1) with a sum of 0");
    }

    /** Each of eight members misses 375 meetings, as many as go into 512 calls. */
    private static void sumFarBelowZero() {
        check.part("promise 21: a sum far below 0");
        TandemExchange x = new TandemExchange();
        for (int i = 0; i < 4; i++) {
            x.join(0, 900, 0);
            x.join(1, 9000, 0);
        }
        for (int i = 0; i < 125; i++) {
            x.match();
            x.week(511);
            x.week(511);
            x.week(511);
        }
        int score = 90 - 5 * 375 - 25;
        check.is(4, x.best(0), "best(0)");
        check.is(8 * score, x.best(1), "best(1)");
        check.is(0, x.missedMost(), "missedMost()");
    }

    private static void missedMostAmongSeveral() {
        check.part("promise 22: the smallest best(0), then best(1), then number");
        check.is(NONE, new TandemExchange().missedMost(), "missedMost() without members");
        check.is(0, Circles.loaded("L" + "m0000000".repeat(9)).missedMost(), "missedMost() without members who fit");
        check.is(0, Circles.loaded(WIDE).missedMost(), "missedMost() of a pair");
        check.is(1, Circles.loaded("Lm3333300m0090000m1900000").missedMost(), "missedMost() of a pair and another one");
        TandemExchange x = new TandemExchange();
        x.join(0, 200, -99);
        x.join(1, 2000, -99);
        x.join(2, 9, 0);
        x.join(3, 90, 0);
        // Without 0 or 1 one pair of 180 is left, without 2 or 3 one of -10.
        check.is(2, x.missedMost(), "missedMost() of a good pair and a bad one");
        x.leave(3);
        check.is(0, x.missedMost(), "missedMost(): no pair is less than one of -10");
        TandemExchange nine = nine();
        check.is(1, nine.missedMost(), "missedMost(): without 0 there are four pairs left");
        nine.leave(8);
        check.is(0, nine.missedMost(), "missedMost() of eight who are equal");
        TandemExchange five = Circles.loaded("L" + "m0090000m1900000".repeat(2) + "m0090004");
        check.is(1, five.missedMost(), "missedMost(): fewer teachers than learners");
    }

    // ---- promises 23 to 25: forecasts

    private static void weeksAhead() {
        check.part("promise 23: 0 to 60 weeks");
        TandemExchange x = Circles.paired(WIDE, 0, 1);
        int level = 0;
        for (int m = 0; m <= 60; m++) {
            if (level < 8 && m == WEEKS_TO_LEVEL[level + 1]) {
                level++;
            }
            check.is(level, x.ahead(0, m, 0, 0), "ahead(0, " + m + ", 0, 0)");
            check.is(level, x.ahead(1, m, 508, 1), "ahead(1, " + m + ", 508, 1)");
            check.is(m < 18 ? 1 : NONE, x.ahead(0, m, 0, 8), "ahead(0, " + m + ", 0, 8)");
            check.is(Math.min(m, 18), x.ahead(0, m, 0, 6), "ahead(0, " + m + ", 0, 6)");
            check.is(m < 3 ? m : NONE, x.ahead(0, m, 511, 9), "ahead(0, " + m + ", 511, 9)");
            check.is(Math.min(m, 3), x.ahead(1, m, 511, 7), "ahead(1, " + m + ", 511, 7)");
        }
        // Nobody is matched ahead of these weeks.
        check.is(0, Circles.loaded(WIDE).ahead(0, 60, 0, 5), "ahead(0, 60, 0, 5) without a pair");
    }

    private static void weeksToALevel() {
        check.part("promise 24: levels 0 to 9");
        TandemExchange x = Circles.loaded(WIDE);
        for (int level = 0; level <= 9; level++) {
            check.is(WEEKS_TO_LEVEL[level], x.levelAfter(0, level), "levelAfter(0, " + level + ")");
            check.is(WEEKS_TO_LEVEL[level], x.levelAfter(1, level), "levelAfter(1, " + level + ")");
        }
        x.test(0, 0, 85);
        check.is(0, x.levelAfter(0, 8), "levelAfter(0, 8) with the level 8");
        check.is(NONE, x.levelAfter(0, 9), "levelAfter(0, 9) with the level 8");
        x.test(0, 0, 90);
        check.is(0, x.levelAfter(0, 9), "levelAfter(0, 9) with the level 9");
        TandemExchange soon = Circles.loaded(WIDE);
        soon.test(0, 0, 79);
        check.is(0, soon.levelAfter(0, 7), "levelAfter(0, 7) with the level 7");
        check.is(1, soon.levelAfter(0, 8), "levelAfter(0, 8): 18 points and 6 more");
        check.is(NONE, Circles.loaded("Lm0000000").levelAfter(0, 1), "levelAfter(0, 1) of the only one");
        check.is(0, Circles.loaded("Lm0000000").levelAfter(0, 0), "levelAfter(0, 0) of the only one");
    }

    /**
     * 2 is taught by 1 until both have the levels 1 and 2, which takes four weeks; then 0 finds the teacher 2, who
     * has had enough, at the level 8, when 0 is at the level 7.
     */
    private static void weeksOfWaiting() {
        check.part("promise 24: matching ahead of each week");
        TandemExchange x = Circles.paired("Lm0090000m0020000m1900000", 1, 2);
        for (int level = 1; level <= 7; level++) {
            check.is(4 + WEEKS_TO_LEVEL[level], x.levelAfter(0, level), "levelAfter(0, " + level + ")");
        }
        check.is(NONE, x.levelAfter(0, 8), "levelAfter(0, 8)");
        check.is(4, x.levelAfter(2, 1), "levelAfter(2, 1)");
        check.is(4 + 16, x.levelAfter(2, 8), "levelAfter(2, 8)");
    }

    private static void weeksToPart() {
        check.part("promise 25: the first weeks");
        for (int progress = 0; progress <= 18; progress += 2) {
            TandemExchange x = Circles.loaded("Lm0790000m1900000");
            x.test(0, 0, 70 + progress / 2);
            x.pair(0, 1);
            int due = (20 - progress + 5) / 6;
            check.is(due, x.partsAfter(0, 0), "partsAfter(0, 0) with " + progress + " points");
            check.is(due, x.partsAfter(1, 0), "partsAfter(1, 0) with " + progress + " points");
        }
        TandemExchange y = Circles.paired(WIDE, 0, 1);
        check.is(18, y.partsAfter(0, 0), "partsAfter(0, 0) with leads of 9");
        for (int missed = 0; missed <= 2; missed++) {
            for (int absent : new int[] {1, 2, 3, 511}) {
                check.is(3 - missed, y.partsAfter(0, absent), "partsAfter(0, " + absent + ")");
                check.is(3 - missed, y.partsAfter(1, absent), "partsAfter(1, " + absent + ")");
            }
            check.is(18, y.partsAfter(1, 508), "partsAfter(1, 508)");
            y.week(1);
        }
    }

    // ---- promises 26 and 27: scripts and simulations

    /** 0 and 1 are a pair, 2 and 3 are free and fit. */
    private static boolean succeeds(int d1, int d2, int d3, int d4) {
        int[][] levels = {{5, 2, 0, 0}, {9, 0, 0, 0}, {0, 9, 0, 0}, {2, 5, 0, 0}};
        switch (d1) {
            case 1: return d4 == 0 && (d2 == 2 && d3 == 3 || d2 == 3 && d3 == 2);
            case 2: return d3 == 0 && d4 == 0 && d2 < 2;
            case 3: return d2 == 0 && d3 == 0 && d4 == 0;
            case 4: return d2 == 0 && 10 * d3 + d4 > 0 && 10 * d3 + d4 < 51;
            case 5: return 100 * d2 + 10 * d3 + d4 < 512;
            case 6: return d2 < 4 && d3 < 4;
            case 7: return d4 == 0 && (d2 == 0 && d3 == 1 || d2 == 1 && d3 == 0);
            case 8: return d2 == 0 && d3 == 0 && d4 == 1;
            case 9: return d2 < 4 && d3 < 4 && levels[d2][d3] == d4;
            default: return false;
        }
    }

    private static void allGroupsOfAScript() {
        check.part("promise 26: each group of four digits");
        TandemExchange x = null;
        for (int group = 0; group < 10000; group++) {
            // No object gets more than 512 calls.
            if (group % 400 == 0) {
                x = Circles.paired(Circles.CHAIN, 0, 1);
            }
            boolean due = succeeds(group / 1000, group / 100 % 10, group / 10 % 10, group % 10);
            check.is(due ? NONE : 0, x.runScript(1, group), "runScript(1, " + group + ")");
        }
        TandemExchange empty = new TandemExchange();
        for (long group : new long[] {0, 1000, 1010, 2000, 6000, 7000, 7010, 8001, 9000}) {
            check.is(0, empty.runScript(1, group), "runScript(1, " + group + ") of nobody");
        }
        for (long group : new long[] {3000, 4001, 4050, 5000, 5511, 8000}) {
            check.is(NONE, empty.runScript(1, group), "runScript(1, " + group + ") of nobody");
        }
        TandemExchange nine = nine();
        for (long group : new long[] {1780, 1870, 6839, 9809, 9819}) {
            boolean due = group != 9809;
            check.is(due ? NONE : 0, nine.runScript(1, group), "runScript(1, " + group + ") of nine");
        }
        for (long group : new long[] {1890, 1980, 2900, 6900, 7890, 9900}) {
            check.is(0, nine.runScript(1, group), "runScript(1, " + group + ") of nine");
        }
        check.is(NONE, nine.runScript(2, 3000_8004L), "runScript(2, 30008004) of nine");
        check.is(1, nine.runScript(2, 3000_8005L), "runScript(2, 30008005) of nine");
    }

    private static void runs(int due, String text, int a, int b, int n, long script) {
        check.is(due, Circles.paired(text, a, b).runScript(n, script), "runScript(" + n + ", " + script + ")");
    }

    private static void effectsInAScript() {
        check.part("promise 26: what commands do");
        runs(NONE, Circles.CHAIN, 0, 1, 3, 1230_8002_7320L);
        runs(1, Circles.CHAIN, 0, 1, 2, 1230_8001L);
        runs(NONE, Circles.CHAIN, 0, 1, 2, 2100_8000L);
        runs(1, Circles.CHAIN, 0, 1, 2, 2100_7010L);
        runs(NONE, Circles.CHAIN, 0, 1, 2, 3000_8002L);
        runs(NONE, Circles.CHAIN, 0, 1, 3, 4001_8001_7120L);
        runs(1, Circles.CHAIN, 0, 1, 2, 4001_7010L);
        runs(NONE, WIDE, 0, 1, 3, 5003_5002_8001L);
        runs(NONE, WIDE, 0, 1, 4, 5003_5002_5001_8000L);
        runs(NONE, WIDE, 0, 1, 3, 5508_5000_9001L);
        runs(NONE, WIDE, 0, 1, 2, 5000_9000L);
        // In a circle of three two block after each number of steps.
        String three = "Lm0079000m1907000m2790000";
        int[] partners = {7020, 7010, 7120};
        for (int steps = 1; steps <= 50; steps++) {
            for (int k = 0; k < 3; k++) {
                long script = (4000L + steps) * 10000 + partners[k];
                runs(k == (steps + 1) % 3 ? NONE : 1, three, 0, 1, 2, script);
            }
        }
        for (int level = 0; level <= 9; level++) {
            for (int language = 0; language <= 3; language++) {
                long group = 10 * language + level;
                runs(NONE, WIDE, 0, 1, 2, (6000 + group) * 10000 + 9000 + group);
                runs(1, WIDE, 0, 1, 2, (6100 + group) * 10000 + 9100 + 10 * language + (level + 1) % 10);
            }
        }
        // A test by a script leaves no progress: 18 points would have been enough.
        TandemExchange soon = Circles.paired("Lm0390000m1900000", 0, 1);
        soon.test(0, 0, 79);
        check.is(NONE, soon.runScript(2, 5000_9008L), "runScript(2, 50009008)");
        check.is(NONE, soon.runScript(3, 6007_5000_9007L), "runScript(3, 600750009007)");
    }

    private static void placesInAScript() {
        check.part("promise 26: the index of the first command that fails");
        TandemExchange x = new TandemExchange();
        long right = 3000;
        for (int n = 1; n <= 4; n++) {
            long whole = 0;
            for (int i = 0; i < n; i++) {
                whole = 10000 * whole + right;
            }
            check.is(NONE, x.runScript(n, whole), "runScript(" + n + ", " + whole + ")");
            long place = 1;
            for (int i = n - 1; i >= 0; i--) {
                // 3001 fails; whether the last one does too makes no difference.
                check.is(i, x.runScript(n, whole + place), "runScript(" + n + ", " + (whole + place) + ")");
                if (i < n - 1) {
                    check.is(i, x.runScript(n, whole + place + 1), "runScript(" + n + ", " + (whole + place + 1) + ")");
                }
                place *= 10000;
            }
            // With fewer digits there are zeros before them.
            check.is(n == 1 ? NONE : 0, x.runScript(n, right), "runScript(" + n + ", 3000)");
            check.is(0, x.runScript(n, 0), "runScript(" + n + ", 0)");
        }
    }

    /** Each seed leads to the r that stands ahead of it. */
    private static void roundsOfASimulation() {
        check.part("promise 27: r at its bounds");
        long[][] rows = {{0, -7379792620528906219L}, {1, -84997745826115563L}, {3, -3942152070130085867L},
            {4, 3352642804572704789L}, {2043, -9083075160045301739L}, {2044, -1788280285342511083L},
            {2045, 5506514589360279573L}, {2047, 1649360265056309269L}, {2048, 8944155139759099925L},
            {2147483644, 334516028079034389L}, {2147483647, 3772156578477854741L}};
        for (long[] row : rows) {
            int r = (int) row[0];
            int absent = r / 4 % 512;
            int earned = (absent & 1) == 1 ? (absent & 2) == 2 ? -6 : -1 : (absent & 2) == 2 ? -1 : 2;
            int free = Circles.loaded(Circles.TWO).simulate(row[1], 1);
            check.is(r % 4 == 0 ? 23 + earned : 23, free, "simulate with r " + r + " without a pair");
            int paired = Circles.paired(Circles.TWO, 0, 1).simulate(row[1], 1);
            check.is(23 + earned, paired, "simulate with r " + r + " of a pair");
        }
        // The seed 0 leads to r 167951807: no matching, and 367, 1 + 2 + 4 + 8 + 32 + 64 + 256, is absent.
        check.is(17, Circles.paired(Circles.TWO, 0, 1).simulate(0, 1), "simulate(0, 1)");
        // The seed -1 leads to r 1574552488: matching, and 234, 2 + 8 + 32 + 64 + 128, is absent.
        check.is(22, Circles.loaded(Circles.TWO).simulate(-1, 1), "simulate(-1, 1)");
        // The seed 1 leads to r 908834774: no matching, and 501, 1 + 4 + 16 + 32 + 64 + 128 + 256, is absent.
        check.is(22, Circles.paired(Circles.TWO, 0, 1).simulate(1, 1), "simulate(1, 1)");
        check.is(23, Circles.loaded(Circles.TWO).simulate(1, 1), "simulate(1, 1) without a pair");
    }

    // ---- promises 28 and 29: save slots

    private static void twoSlots() {
        check.part("promises 28 and 29: the slots 0 and 1");
        TandemExchange x = Circles.loaded(Circles.TWO);
        x.save(0);
        x.pair(0, 1);
        x.week(1);
        check.is(1, x.save(1), "save(1)");
        x.leave(0);
        x.week(0);
        check.is(0, x.restore(0), "restore(0)");
        check.aboutIs(x, 2, 0, 0, 0, 1, 23, 1);
        check.is(1, x.restore(1), "restore(1)");
        check.memberIs(x, 0, 2, 9, 0, 0, 0, 0, 7, 1, 1, 1);
        x.week(0);
        check.is(1, x.restore(1), "restore(1): the slot keeps it");
        check.memberIs(x, 0, 2, 9, 0, 0, 0, 0, 7, 1, 1, 1);
        TandemExchange y = new TandemExchange();
        check.is(0, y.save(1), "save(1) of nobody");
        y.join(0, 0, 0);
        check.is(0, y.restore(1), "restore(1) of nobody");
        check.is(0, y.about(0), "about(0)");
        check.is(0, y.restore(1), "restore(1) again");
        check.badState(() -> y.restore(0), "restore(0) of an empty slot");
    }
}
