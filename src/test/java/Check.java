/** What the tests share: they compare answers, count the wrong ones, and end with exit code 1 if there was one. */
final class Check {
    private static int wrong = 0;
    private static int asked = 0;
    private static String sentence = "";

    interface Call {
        void make();
    }

    private Check() {
    }

    /** The document's sentence that the answers from here on hold to; it is told with each wrong one. */
    static void sentence(String words) {
        sentence = "\"" + words + "\": ";
    }

    private static void tell(String what) {
        wrong++;
        System.out.println(sentence + what);
    }

    static void due(String what, long want, long got) {
        asked++;
        if (got != want) {
            tell(what + " answered " + got + ", due is " + want);
        }
    }

    static void due(String what, boolean want, boolean got) {
        due(what, want ? 1 : 0, got ? 1 : 0);
    }

    /** The very class counts: a subclass of the exception that is due is not what the document says. */
    static void thrown(String what, Class<? extends RuntimeException> want, Call call) {
        asked++;
        String got = "nothing";
        try {
            call.make();
        } catch (RuntimeException e) {
            got = e.getClass().getSimpleName();
        }
        if (!got.equals(want.getSimpleName())) {
            tell(what + " threw " + got + ", due is " + want.getSimpleName());
        }
    }

    /** The call throws just this, and every answer behind it is what it was before. */
    static void refused(String what, Class<? extends RuntimeException> want, PatternWatch x, Call call) {
        String before = state(x);
        thrown(what, want, call);
        same(what, before, state(x));
    }

    static void same(String what, String before, String after) {
        asked++;
        if (!after.equals(before)) {
            tell(what + " changed\n  " + before + " to\n  " + after);
        }
    }

    /** All that an object tells, but for its text, which only load shows. */
    static String state(PatternWatch x) {
        return "fault " + x.fault() + standing(x);
    }

    /** All that a load that throws may not change. */
    static String standing(PatternWatch x) {
        StringBuilder s = new StringBuilder("; figures");
        for (int k = 0; k < 8; k++) {
            s.append(' ').append(x.figure(k));
        }
        int runs = x.runs();
        for (int place = 0; place < runs; place++) {
            s.append("; run");
            for (int what = 0; what < 4; what++) {
                s.append(' ').append(x.run(place, what));
            }
        }
        int matches = matches(x);
        for (int i = 0; i < matches; i++) {
            int size = x.size(i);
            s.append("; match");
            for (int k = 0; k < size; k++) {
                s.append(' ').append(x.at(i, k));
            }
        }
        return s.toString();
    }

    /** How many matches of the latest event are told. */
    static int matches(PatternWatch x) {
        int i = 0;
        try {
            while (x.size(i) > 0) {
                i++;
            }
        } catch (IndexOutOfBoundsException e) {
            return i;
        }
        return i;
    }

    static void end() {
        System.out.println(asked + " answers, " + wrong + " of them wrong");
        if (wrong != 0) {
            System.exit(1);
        }
    }

    static void typeAll(PatternWatch x, String text) {
        for (int i = 0; i < text.length(); i++) {
            due("type of '" + text.charAt(i) + "' in " + text, true, x.type(text.charAt(i)));
        }
    }

    static void retype(PatternWatch x, String text) {
        x.wipe();
        typeAll(x, text);
    }

    /** A new object that takes this text for a pattern of so many steps and such a window. */
    static void isPattern(String text, int steps, int window) {
        PatternWatch x = new PatternWatch();
        typeAll(x, text);
        due("load of " + text, steps, x.load());
        due("fault of " + text, -1, x.fault());
        figures("load of " + text, x, 0, 0, 0, 0, 0, 0, steps, window);
    }

    /** A new object that takes this text for none, with this fault, and has no pattern behind that. */
    static void isNoPattern(String text, int fault) {
        PatternWatch x = new PatternWatch();
        typeAll(x, text);
        thrown("load of " + text, IllegalArgumentException.class, () -> x.load());
        due("fault of " + text, fault, x.fault());
        figures("load of " + text, x, 0, 0, 0, 0, 0, 0, 0, 0);
        thrown("event after " + text, IllegalStateException.class, () -> x.event('A', 0, 0, 0));
    }

    /** A new object with this pattern loaded. */
    static PatternWatch watch(String text) {
        PatternWatch x = new PatternWatch();
        typeAll(x, text);
        x.load();
        return x;
    }

    /** One event of key 0 and value 0 at once for each letter; the last answer. */
    static int feed(PatternWatch x, String kinds) {
        int found = 0;
        for (int i = 0; i < kinds.length(); i++) {
            found = x.event(kinds.charAt(i), 0, 0, 0);
        }
        return found;
    }

    /** The i-th match's events are just these. */
    static void match(String what, PatternWatch x, int i, int... numbers) {
        due(what + ": size(" + i + ")", numbers.length, x.size(i));
        for (int k = 0; k < numbers.length; k++) {
            due(what + ": at(" + i + ", " + k + ")", numbers[k], x.at(i, k));
        }
    }

    static void run(String what, PatternWatch x, int place, int... answers) {
        for (int k = 0; k < answers.length; k++) {
            due(what + ": run(" + place + ", " + k + ")", answers[k], x.run(place, k));
        }
    }

    static void figures(String what, PatternWatch x, int... answers) {
        for (int k = 0; k < answers.length; k++) {
            due(what + ": figure(" + k + ")", answers[k], x.figure(k));
        }
    }
}
