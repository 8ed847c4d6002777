/** The edges of promises 7 to 11, size, at, runs, run and figure: a test for each sentence that names one. */
public final class AnswerEdgeTest {
    private static final Class<IllegalArgumentException> ARGUMENT = IllegalArgumentException.class;
    private static final Class<IndexOutOfBoundsException> INDEX = IndexOutOfBoundsException.class;
    // Far away on both sides, and where a narrower number would begin anew.
    private static final int[] FAR = {Integer.MIN_VALUE, -65536, -256, -24, -2, -1, 256, 65536, Integer.MAX_VALUE};

    public static void main(String[] args) {
        sizeOfNone();
        sizeOfSome();
        sizeOfTwentyFour();
        sizeFromOneToNineteen();
        matchesOfTheLatestEvent();
        atOfNone();
        atOfSome();
        atOfTheLongest();
        runsFromNoneToTwentyFour();
        runOfNone();
        runOfTwentyFour();
        whatOfARun();
        wrongPlaceAndWhat();
        runAfterItsEnd();
        figuresWithoutPattern();
        wrongFigures();
        timeAndEvents();
        matchesInAll();
        droppedInAll();
        wentBecauseOfTheWindow();
        wentBecauseOfABarredElement();
        stepsAndWindow();
        figuresSinceLoad();
        Check.end();
    }

    private static PatternWatch fed(String text, String kinds) {
        PatternWatch x = Check.watch(text);
        Check.feed(x, kinds);
        return x;
    }

    private static void noMatch(String what, PatternWatch x, int i) {
        Check.thrown(what + ": size(" + i + ")", INDEX, () -> x.size(i));
        Check.thrown(what + ": at(" + i + ", 0)", INDEX, () -> x.at(i, 0));
    }

    private static void sizeOfNone() {
        Check.sentence("Index out of bounds: there is no such match.");
        PatternWatch x = new PatternWatch();
        Check.refused("without a pattern", INDEX, x, () -> x.size(0));
        PatternWatch loaded = Check.watch("AB@9");
        Check.refused("before any event", INDEX, loaded, () -> loaded.size(0));
        Check.feed(loaded, "A");
        Check.refused("an event without a match", INDEX, loaded, () -> loaded.size(0));
    }

    private static void sizeOfSome() {
        Check.sentence("Index out of bounds: there is no such match.");
        PatternWatch x = fed("AB@9", "AAAB");
        for (int i = 0; i < 3; i++) {
            Check.due("size(" + i + ")", 2, x.size(i));
        }
        String before = Check.state(x);
        for (int i : new int[] {3, 4, 23, 24, 25}) {
            noMatch("three", x, i);
        }
        for (int i : FAR) {
            noMatch("three", x, i);
        }
        Check.same("what was refused", before, Check.state(x));
        Check.due("none of it was an event", 4, x.figure(1));
    }

    private static void sizeOfTwentyFour() {
        Check.sentence("Index out of bounds: there is no such match.");
        PatternWatch x = fed("AB@9", "A".repeat(25) + "B");
        Check.match("the first", x, 0, 0, 25);
        Check.match("the last", x, 23, 23, 25);
        noMatch("24", x, 24);
        noMatch("24", x, 25);
        noMatch("24", x, -1);
    }

    private static void sizeFromOneToNineteen() {
        Check.sentence("How many events the i-th match of the latest event has.");
        Check.due("the shortest", 1, fed("A@0", "A").size(0));
        for (int count = 1; count <= 14; count++) {
            PatternWatch x = fed("A+B@9", "A".repeat(count) + "B");
            Check.due(count + " and one", Math.min(count, 12) + 1, x.size(0));
        }
        PatternWatch longest = Check.watch("A+=0BCDEFAB@9");
        Check.feed(longest, "A".repeat(12));
        for (char kind : "BCDEFAB".toCharArray()) {
            longest.event(kind, 0, 1, 0);
        }
        for (int i = 0; i < 12; i++) {
            Check.due("the longest, and those that began behind it", 19 - i, longest.size(i));
        }
    }

    private static void matchesOfTheLatestEvent() {
        Check.sentence("How many events the i-th match of the latest event has.");
        PatternWatch x = fed("A+B@9", "AAB");
        Check.match("two matches", x, 0, 0, 1, 2);
        Check.match("two matches", x, 1, 1, 2);
        Check.match("asked again", x, 0, 0, 1, 2);
        Check.thrown("an event that throws", ARGUMENT, () -> x.event('G', 0, 0, 0));
        Check.match("an event that throws is none", x, 1, 1, 2);
        x.wipe();
        Check.thrown("a load that throws", ARGUMENT, () -> x.load());
        Check.match("a load that throws changes nothing", x, 1, 1, 2);
        Check.feed(x, "A");
        noMatch("an event without a match", x, 0);
        Check.feed(x, "B");
        Check.match("one match", x, 0, 3, 4);
        noMatch("fewer than before", x, 1);
        Check.typeAll(x, "C@1");
        x.load();
        noMatch("loaded", x, 0);
    }

    private static void atOfNone() {
        Check.sentence("Index out of bounds: there is no such match, or it has no such event.");
        PatternWatch x = new PatternWatch();
        Check.refused("without a pattern", INDEX, x, () -> x.at(0, 0));
        PatternWatch loaded = Check.watch("AB@9");
        Check.refused("before any event", INDEX, loaded, () -> loaded.at(0, 0));
        Check.feed(loaded, "A");
        Check.refused("an event without a match", INDEX, loaded, () -> loaded.at(0, 0));
    }

    private static void atOfSome() {
        Check.sentence("Index out of bounds: there is no such match, or it has no such event.");
        PatternWatch x = fed("A+B@9", "CAACAB");
        String before = Check.state(x);
        Check.match("three events and one", x, 0, 1, 2, 4, 5);
        Check.match("two events and one", x, 1, 2, 4, 5);
        Check.match("one event and one", x, 2, 4, 5);
        for (int i = 0; i < 3; i++) {
            int match = i;
            // Behind the last event of this match, though the ones before it are longer.
            for (int k = 4 - i; k < 26; k++) {
                int event = k;
                Check.thrown("at(" + i + ", " + k + ")", INDEX, () -> x.at(match, event));
            }
            for (int k : FAR) {
                Check.thrown("at(" + i + ", " + k + ")", INDEX, () -> x.at(match, k));
            }
        }
        for (int i : FAR) {
            Check.thrown("at(" + i + ", 0)", INDEX, () -> x.at(i, 0));
            Check.thrown("at(" + i + ", " + i + ")", INDEX, () -> x.at(i, i));
        }
        Check.same("what was refused", before, Check.state(x));
    }

    private static void atOfTheLongest() {
        Check.sentence("The number of the k-th event (from 0, in order) of the i-th match of the latest event.");
        PatternWatch x = Check.watch("A+=0BCDEFAB@9");
        Check.feed(x, "A".repeat(12));
        for (char kind : "BCDEFAB".toCharArray()) {
            x.event(kind, 0, 1, 0);
        }
        for (int k = 0; k < 19; k++) {
            Check.due("at(0, " + k + ")", k, x.at(0, k));
        }
        Check.thrown("at(0, 19)", INDEX, () -> x.at(0, 19));
        Check.thrown("at(0, -1)", INDEX, () -> x.at(0, -1));
        Check.due("the last of the last", 18, x.at(11, 7));
        Check.thrown("at(11, 8)", INDEX, () -> x.at(11, 8));
        Check.thrown("at(12, 0)", INDEX, () -> x.at(12, 0));
        PatternWatch one = fed("A@0", "BA");
        Check.due("the only one", 1, one.at(0, 0));
        Check.thrown("at(0, 1)", INDEX, () -> one.at(0, 1));
    }

    private static void runsFromNoneToTwentyFour() {
        Check.sentence("How many runs there are.");
        PatternWatch x = new PatternWatch();
        Check.due("without a pattern", 0, x.runs());
        Check.typeAll(x, "AB@9");
        x.load();
        Check.due("loaded", 0, x.runs());
        for (int n = 1; n <= 26; n++) {
            Check.feed(x, "A");
            Check.due("after " + n, Math.min(n, 24), x.runs());
        }
        Check.feed(x, "B");
        Check.due("all matched", 0, x.runs());
    }

    private static void runOfNone() {
        Check.sentence("Index out of bounds: there is no such run");
        PatternWatch x = new PatternWatch();
        PatternWatch loaded = Check.watch("AB@9");
        for (int what = 0; what < 4; what++) {
            int asked = what;
            Check.refused("without a pattern", INDEX, x, () -> x.run(0, asked));
            Check.refused("without a run", INDEX, loaded, () -> loaded.run(0, asked));
        }
    }

    private static void runOfTwentyFour() {
        Check.sentence("Index out of bounds: there is no such run");
        for (int count : new int[] {1, 2, 23, 24, 25}) {
            PatternWatch x = fed("AB@9", "A".repeat(count));
            int last = Math.min(count, 24) - 1;
            Check.run("the first", x, 0, 0, 1, 0, 0);
            Check.run("the last", x, last, 0, 1, last, last);
            Check.refused("behind the last", INDEX, x, () -> x.run(last + 1, 0));
            Check.thrown("before the first", INDEX, () -> x.run(-1, 0));
            for (int place : FAR) {
                Check.thrown("run(" + place + ", 3)", INDEX, () -> x.run(place, 3));
            }
        }
    }

    private static void whatOfARun() {
        Check.sentence("illegal argument: what is not 0 .. 3");
        PatternWatch x = fed("CA+BC@9", "FCFAFAF");
        Check.due("its step", 1, x.run(0, 0));
        Check.due("how many events it took", 3, x.run(0, 1));
        Check.due("the number of its first one", 1, x.run(0, 2));
        Check.due("that of its last one", 5, x.run(0, 3));
        Check.refused("what 4", ARGUMENT, x, () -> x.run(0, 4));
        Check.refused("what -1", ARGUMENT, x, () -> x.run(0, -1));
        for (int what : FAR) {
            Check.thrown("what " + what, ARGUMENT, () -> x.run(0, what));
        }
    }

    private static void wrongPlaceAndWhat() {
        Check.sentence("Index out of bounds: there is no such run");
        PatternWatch x = fed("AB@9", "A");
        for (int what : FAR) {
            Check.thrown("no such run, what " + what, INDEX, () -> x.run(1, what));
            Check.thrown("no such run, what " + what, INDEX, () -> x.run(-1, what));
        }
        PatternWatch none = new PatternWatch();
        Check.thrown("without a pattern", INDEX, () -> none.run(0, 4));
    }

    private static void runAfterItsEnd() {
        Check.sentence("Of a run by its place in the list (from 0)");
        PatternWatch x = Check.watch("A!CB@5");
        x.event('A', 0, 0, 0);
        x.event('A', 0, 0, 3);
        x.event('A', 0, 0, 0);
        x.event('F', 0, 0, 3);
        Check.run("those behind the one that went moved up", x, 0, 0, 1, 1, 1);
        Check.run("those behind the one that went moved up", x, 1, 0, 1, 2, 2);
        Check.thrown("its old place at the end", INDEX, () -> x.run(2, 0));
        Check.feed(x, "B");
        Check.thrown("matched", INDEX, () -> x.run(0, 0));
        Check.feed(x, "AC");
        Check.thrown("barred", INDEX, () -> x.run(0, 0));
    }

    private static void figuresWithoutPattern() {
        Check.sentence("6: how many steps the pattern has (0 without); 7: its window");
        PatternWatch x = new PatternWatch();
        Check.figures("new", x, 0, 0, 0, 0, 0, 0, 0, 0);
        Check.typeAll(x, "AB@9");
        Check.figures("typed", x, 0, 0, 0, 0, 0, 0, 0, 0);
        Check.thrown("event", IllegalStateException.class, () -> x.event('A', 0, 0, 5));
        Check.figures("an event that throws", x, 0, 0, 0, 0, 0, 0, 0, 0);
        Check.typeAll(x, "x");
        Check.thrown("load", ARGUMENT, () -> x.load());
        Check.figures("a load that throws", x, 0, 0, 0, 0, 0, 0, 0, 0);
    }

    private static void wrongFigures() {
        Check.sentence("Illegal argument: k is none of these.");
        PatternWatch none = new PatternWatch();
        PatternWatch x = fed("A+B@9", "AAB");
        Check.refused("figure(8)", ARGUMENT, x, () -> x.figure(8));
        Check.refused("figure(-1)", ARGUMENT, x, () -> x.figure(-1));
        Check.thrown("figure(8) without a pattern", ARGUMENT, () -> none.figure(8));
        Check.thrown("figure(-1) without a pattern", ARGUMENT, () -> none.figure(-1));
        for (int k : FAR) {
            Check.thrown("figure(" + k + ")", ARGUMENT, () -> x.figure(k));
        }
        Check.figures("0 .. 7", x, 0, 3, 2, 0, 0, 0, 2, 9);
    }

    private static void timeAndEvents() {
        Check.sentence("k = 0: the time; 1: how many events there were");
        PatternWatch x = Check.watch("A@0");
        Check.figures("none yet", x, 0, 0);
        x.event('A', 0, 0, 0);
        Check.figures("nothing passed", x, 0, 1);
        x.event('B', 0, 0, 1);
        Check.figures("one that does not matter counts too", x, 1, 2);
        x.event('B', 0, 0, 1000);
        Check.figures("the longest", x, 1001, 3);
        Check.thrown("too long", ARGUMENT, () -> x.event('B', 0, 0, 1001));
        Check.figures("refused", x, 1001, 3);
    }

    private static void matchesInAll() {
        Check.sentence("2: how many matches in all");
        PatternWatch x = fed("AB@9", "A".repeat(24));
        Check.due("runs are none yet", 0, x.figure(2));
        Check.feed(x, "B");
        Check.due("24 at once", 24, x.figure(2));
        Check.feed(x, "B");
        Check.due("an event without a match", 24, x.figure(2));
        Check.feed(x, "AAB");
        Check.due("two more", 26, x.figure(2));
    }

    private static void droppedInAll() {
        Check.sentence("3: how many runs were dropped");
        PatternWatch x = fed("AB@9", "A".repeat(24));
        Check.due("24 find room", 0, x.figure(3));
        Check.feed(x, "AAAAAA");
        Check.due("six do not", 6, x.figure(3));
        Check.feed(x, "FBAA");
        Check.due("there is room again", 6, x.figure(3));
        PatternWatch both = fed("A+*C@9", "AAAAAA");
        Check.due("six of step 0, fifteen gone on", 21, both.runs());
        Check.due("none yet", 0, both.figure(3));
        Check.feed(both, "A");
        Check.due("three that go on and one that begins", 4, both.figure(3));
    }

    private static void wentBecauseOfTheWindow() {
        Check.sentence("4: how many went because of the window");
        PatternWatch x = fed("A!CB@9", "A".repeat(24));
        x.event('F', 0, 0, 9);
        Check.due("none yet", 0, x.figure(4));
        x.event('F', 0, 0, 1);
        Check.due("all", 24, x.figure(4));
        Check.feed(x, "AC");
        Check.due("one barred", 24, x.figure(4));
        Check.feed(x, "AB");
        Check.due("one matched", 24, x.figure(4));
    }

    private static void wentBecauseOfABarredElement() {
        Check.sentence("5: how many because of a barred element");
        PatternWatch x = fed("A!CB@9", "A".repeat(24));
        Check.due("none yet", 0, x.figure(5));
        Check.feed(x, "C");
        Check.due("all", 24, x.figure(5));
        Check.feed(x, "C");
        Check.due("no run was there", 24, x.figure(5));
        Check.feed(x, "A");
        x.event('C', 0, 0, 10);
        Check.due("one behind the window", 24, x.figure(5));
    }

    private static void stepsAndWindow() {
        Check.sentence("6: how many steps the pattern has (0 without); 7: its window");
        Check.figures("the least", Check.watch("A@0"), 0, 0, 0, 0, 0, 0, 1, 0);
        Check.figures("the most", Check.watch("ABCDEF*A@999"), 0, 0, 0, 0, 0, 0, 8, 999);
        Check.figures("barred ones are no steps", Check.watch("A!B!C!D!E!F!*A#@10"), 0, 0, 0, 0, 0, 0, 2, 10);
    }

    private static void figuresSinceLoad() {
        Check.sentence("all since the pattern was loaded");
        PatternWatch x = Check.watch("A!CB@2");
        x.event('A', 0, 0, 7);
        x.event('F', 0, 0, 3);
        Check.feed(x, "AC" + "A".repeat(25) + "B");
        Check.figures("counted", x, 10, 30, 24, 1, 1, 1, 2, 2);
        x.wipe();
        Check.thrown("load", ARGUMENT, () -> x.load());
        Check.figures("a load that throws", x, 10, 30, 24, 1, 1, 1, 2, 2);
        Check.typeAll(x, "ABC@7");
        Check.figures("typed", x, 10, 30, 24, 1, 1, 1, 2, 2);
        x.load();
        Check.figures("loaded", x, 0, 0, 0, 0, 0, 0, 3, 7);
    }
}
