/** Promises 9 to 11: runs, run, figure. */
public final class RunTest {
    private static final Class<IllegalArgumentException> ARGUMENT = IllegalArgumentException.class;
    private static final Class<IndexOutOfBoundsException> INDEX = IndexOutOfBoundsException.class;

    public static void main(String[] args) {
        runs();
        run();
        wrongRuns();
        figures();
        wrongFigures();
        Check.end();
    }

    private static void runs() {
        PatternWatch x = new PatternWatch();
        Check.due("without a pattern", 0, x.runs());
        Check.typeAll(x, "AB@5");
        x.load();
        Check.due("loaded", 0, x.runs());
        for (int n = 1; n <= 24; n++) {
            Check.feed(x, "A");
            Check.due("after " + n, n, x.runs());
        }
        Check.feed(x, "A");
        Check.due("no more than 24", 24, x.runs());
        Check.feed(x, "C");
        Check.due("passed over", 24, x.runs());
        Check.feed(x, "B");
        Check.due("all matched", 0, x.runs());
    }

    private static void run() {
        PatternWatch x = Check.watch("AB+=1C@50");
        x.event('F', 0, 0, 0);
        x.event('A', 7, 0, 0);
        Check.run("first", x, 0, 0, 1, 1, 1);
        x.event('A', 8, 0, 0);
        x.event('B', 0, 1, 0);
        x.event('A', 9, 0, 0);
        x.event('E', 9, 0, 0);
        x.event('B', 0, 1, 0);
        Check.run("first", x, 0, 1, 3, 1, 6);
        Check.run("second", x, 1, 1, 3, 2, 6);
        Check.run("third", x, 2, 1, 2, 4, 6);
        x.event('A', 9, 0, 50);
        Check.run("those behind", x, 0, 1, 3, 1, 6);
        x.event('A', 9, 0, 1);
        Check.run("move up", x, 0, 0, 1, 7, 7);
        Check.run("move up", x, 1, 0, 1, 8, 8);
    }

    private static void wrongRuns() {
        PatternWatch x = Check.watch("AB@50");
        Check.feed(x, "AA");
        for (int place : new int[] {Integer.MIN_VALUE, -1, 2, 23, 24, 25, Integer.MAX_VALUE}) {
            Check.thrown("run(" + place + ", 0)", INDEX, () -> x.run(place, 0));
            Check.thrown("run(" + place + ", 4)", INDEX, () -> x.run(place, 4));
        }
        for (int what : new int[] {Integer.MIN_VALUE, -1, 4, 5, Integer.MAX_VALUE}) {
            Check.thrown("run(1, " + what + ")", ARGUMENT, () -> x.run(1, what));
        }
        Check.feed(x, "B");
        Check.thrown("matched", INDEX, () -> x.run(0, 0));
    }

    private static void figures() {
        PatternWatch x = Check.watch("A!CB+D#@100");
        Check.figures("loaded", x, 0, 0, 0, 0, 0, 0, 3, 100);
        x.event('A', 1, 0, 30);
        x.event('A', 2, 0, 40);
        Check.figures("time and events", x, 70, 2, 0, 0, 0, 0, 3, 100);
        x.event('C', 1, 0, 60);
        Check.figures("the first: barred, just within the window", x, 130, 3, 0, 0, 0, 1, 3, 100);
        x.event('C', 2, 0, 41);
        Check.figures("the second: the window, not barred", x, 171, 4, 0, 0, 1, 1, 3, 100);
        for (int n = 0; n < 25; n++) {
            x.event('A', 3, 0, 0);
        }
        Check.figures("dropped", x, 171, 29, 0, 1, 1, 1, 3, 100);
        x.event('B', 3, 0, 0);
        x.event('B', 3, 0, 0);
        Check.due("matches", 24, x.event('D', 3, 0, 100));
        Check.figures("matches", x, 271, 32, 24, 1, 1, 1, 3, 100);
        x.event('A', 3, 0, 0);
        x.event('B', 3, 0, 0);
        Check.due("one more match", 1, x.event('D', 3, 0, 0));
        Check.figures("matches in all", x, 271, 35, 25, 1, 1, 1, 3, 100);
    }

    private static void wrongFigures() {
        PatternWatch none = new PatternWatch();
        PatternWatch x = Check.watch("AB@50");
        for (int k : new int[] {Integer.MIN_VALUE, -1, 8, 9, Integer.MAX_VALUE}) {
            Check.thrown("figure(" + k + ") without a pattern", ARGUMENT, () -> none.figure(k));
            Check.thrown("figure(" + k + ")", ARGUMENT, () -> x.figure(k));
        }
    }
}
