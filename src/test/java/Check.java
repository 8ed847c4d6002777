/** What the tests share: they compare answers, count the wrong ones, and end with exit code 1 if there was one. */
final class Check {
    private static int wrong = 0;
    private static int asked = 0;

    interface Call {
        void make();
    }

    private Check() {
    }

    static void due(String what, long want, long got) {
        asked++;
        if (got != want) {
            wrong++;
            System.out.println(what + " answered " + got + ", due is " + want);
        }
    }

    static void due(String what, boolean want, boolean got) {
        due(what, want ? 1 : 0, got ? 1 : 0);
    }

    /** The very class counts: a subclass of the exception that is due is not what the document says. */
    static void thrown(String what, Class<? extends RuntimeException> want, Call call) {
        asked++;
        String got = "nothing";
        try {
            call.make();
        } catch (RuntimeException e) {
            got = e.getClass().getSimpleName();
        }
        if (!got.equals(want.getSimpleName())) {
            wrong++;
            System.out.println(what + " threw " + got + ", due is " + want.getSimpleName());
        }
    }

    static void end() {
        System.out.println(asked + " answers, " + wrong + " of them wrong");
        if (wrong != 0) {
            System.exit(1);
        }
    }

    static void typeAll(PatternWatch x, String text) {
        for (int i = 0; i < text.length(); i++) {
            due("type of '" + text.charAt(i) + "' in " + text, true, x.type(text.charAt(i)));
        }
    }

    static void retype(PatternWatch x, String text) {
        x.wipe();
        typeAll(x, text);
    }

    /** A new object with this pattern loaded. */
    static PatternWatch watch(String text) {
        PatternWatch x = new PatternWatch();
        typeAll(x, text);
        x.load();
        return x;
    }

    /** One event of key 0 and value 0 at once for each letter; the last answer. */
    static int feed(PatternWatch x, String kinds) {
        int found = 0;
        for (int i = 0; i < kinds.length(); i++) {
            found = x.event(kinds.charAt(i), 0, 0, 0);
        }
        return found;
    }

    /** The i-th match's events are just these. */
    static void match(String what, PatternWatch x, int i, int... numbers) {
        due(what + ": size(" + i + ")", numbers.length, x.size(i));
        for (int k = 0; k < numbers.length; k++) {
            due(what + ": at(" + i + ", " + k + ")", numbers[k], x.at(i, k));
        }
    }

    static void run(String what, PatternWatch x, int place, int... answers) {
        for (int k = 0; k < answers.length; k++) {
            due(what + ": run(" + place + ", " + k + ")", answers[k], x.run(place, k));
        }
    }

    static void figures(String what, PatternWatch x, int... answers) {
        for (int k = 0; k < answers.length; k++) {
            due(what + ": figure(" + k + ")", answers[k], x.figure(k));
        }
    }
}
