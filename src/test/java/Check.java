/** Counts answers that are due and answers that are not; prints the latter. */
final class Check {
    interface Call {
        int answer();
    }

    private int passed;
    private int failed;
    private String part = "";

    void part(String name) {
        part = name;
    }

    void is(int due, int got, String call) {
        count(due == got, call + " answered " + got + ", due is " + due);
    }

    /** Compares the first numbers of a member, as many as are due. */
    void memberIs(TandemExchange x, int a, int... due) {
        for (int what = 0; what < due.length; what++) {
            is(due[what], x.member(a, what), "member(" + a + ", " + what + ")");
        }
    }

    void aboutIs(TandemExchange x, int... due) {
        for (int what = 0; what < due.length; what++) {
            is(due[what], x.about(what), "about(" + what + ")");
        }
    }

    void partnersAre(TandemExchange x, int... due) {
        for (int a = 0; a < due.length; a++) {
            is(due[a], x.member(a, 8), "partner of " + a);
        }
    }

    void that(boolean holds, String what) {
        count(holds, what);
    }

    void outOfBounds(Call call, String name) {
        fails(IndexOutOfBoundsException.class, call, name);
    }

    void badArgument(Call call, String name) {
        fails(IllegalArgumentException.class, call, name);
    }

    void badState(Call call, String name) {
        fails(IllegalStateException.class, call, name);
    }

    private void fails(Class<?> due, Call call, String name) {
        String got;
        try {
            got = String.valueOf(call.answer());
        } catch (RuntimeException e) {
            got = e.getClass().getSimpleName();
        }
        count(got.equals(due.getSimpleName()), name + " answered " + got + ", due is " + due.getSimpleName());
    }

    private void count(boolean holds, String text) {
        if (holds) {
            passed++;
        } else {
            failed++;
            System.out.println(part + ": " + text);
        }
    }

    void end() {
        System.out.println(passed + " passed, " + failed + " failed");
        if (failed != 0 || passed == 0) {
            System.exit(1);
        }
    }
}
