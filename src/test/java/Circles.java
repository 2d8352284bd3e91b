/** Makes circles for the tests. */
final class Circles {
    // Two members with leads of 6 levels, who teach each other; their credits are 10 and 13.
    static final String TWO = "Lm0290010m1830013";
    // Only 0 and 1, 1 and 2, 2 and 3 fit; their values are 60, 180 and 60.
    static final String CHAIN = "Lm0520000m1900000m0090000m1250000";
    // 0 and 1 want what 2 and 3 teach and the other way round; all are equally good.
    static final String SQUARE = "Lm0090000m0090000m1900000m1900000";

    private Circles() {
    }

    static TandemExchange withText(String text) {
        TandemExchange x = new TandemExchange();
        type(x, text);
        return x;
    }

    static void type(TandemExchange x, String text) {
        for (int i = 0; i < text.length(); i++) {
            x.append(text.charAt(i));
        }
    }

    static TandemExchange loaded(String text) {
        TandemExchange x = withText(text);
        x.load();
        return x;
    }

    static TandemExchange paired(String text, int... members) {
        TandemExchange x = loaded(text);
        for (int i = 0; i < members.length; i += 2) {
            x.pair(members[i], members[i + 1]);
        }
        return x;
    }
}
