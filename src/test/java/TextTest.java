/** Promises 1 to 5: a new object, type, wipe, load, fault. */
public final class TextTest {
    private static final Class<IllegalArgumentException> ARGUMENT = IllegalArgumentException.class;
    // Threes: a text that is a pattern, its number of steps, its window.
    private static final String[] PATTERNS = {
        "A@0", "1", "0", "F@9", "1", "9", "*@999", "1", "999", "A@007", "1", "7", "A#@10", "1", "10",
        "A<0@1", "1", "1", "A=-99@1", "1", "1", "A>99@1", "1", "1", "A>-0@1", "1", "1", "A=05@1", "1", "1",
        "AB@1", "2", "1", "A+B@1", "2", "1", "A+>3B@1", "2", "1", "A!BC@1", "2", "1", "A!B=pC@1", "2", "1",
        "A!B<-5!*C@1", "2", "1", "AB+<pC>p@1", "3", "1", "A+B+C+D+E+F+*+A@1", "8", "1",
        "A!A!A!A!A!A!AB@1", "2", "1", "ABCDEF*A@1", "8", "1", "A+!BC@1", "2", "1", "AB>p#@12", "2", "12",
    };
    // Pairs: a text that is none, and the length of its longest beginning that some pattern has too.
    private static final String[] FAULTS = {
        "", "0", "@5", "0", "#@5", "0", "!", "0", "!AB@5", "0", "+A@5", "0", "a@5", "0", "G@5", "0", "<5", "0",
        "p", "0", "A", "1", "A#", "2", "A@", "2", "A#@", "3", "A##@5", "2", "A@#5", "2", "A@@5", "2",
        "A@1234", "5", "A@1A", "3", "A@-1", "2", "A@12p", "4", "A@12@", "4", "AG@1", "1", "Ap@1", "1",
        "A++B@1", "2", "A+@5", "2", "A+#@5", "2", "AB+@5", "3", "AB+#@5", "3", "A+", "2", "AB+>3@5", "5",
        "AB+>p#", "5", "A!", "2", "A!@", "2", "A!!B", "2", "A!B", "3", "A!B@5", "3", "A!B#@5", "3", "A!B+C@1", "3",
        "A!B>1+", "5", "A!B>1@5", "5", "A!+B", "2", "A+!B", "4", "A+!B@", "4", "A!5", "2",
        "A<", "2", "A<@1", "2", "A<-", "3", "A<-@", "3", "A<--1", "3", "A<-p", "3", "A<p@1", "2", "A=p@1", "2",
        "A>p@1", "2", "A+>pB@1", "3", "A>+1", "2", "A>123@1", "4", "A>-123@1", "5", "A>1-@1", "3", "A>1>2@1", "3",
        "A>1+B@1", "3", "A><1", "2", "AB<-p", "4", "AB<pp", "4", "AB<p1", "4", "AB<1p", "4", "AB>", "3",
        "ABCDEF*!", "7", "ABCDEF*!AB@1", "7", "ABCDEF*A+", "8", "ABCDEF*A+@1", "8", "ABCDEF*AB@1", "8",
        "ABCDEF*A!", "8", "ABCDEF!A@1", "8", "ABCDEF*+@1", "8", "A!A!A!A!A!A!A@1", "13", "A!A!A!A!A!A!A!A", "13",
        "A!A!A!A!A!A!AB+@1", "14", "ABCDEFA*>p!", "10",
        // No pattern of forty characters begins so, but longer ones do.
        "A+>-11B+>-11C+>-11D+>-11E+>-11F+>-11A+>-", "40", "A+>-11B+>-11C+>-11D+>-11E+>-11F+>-11A+>=", "39",
    };

    public static void main(String[] args) {
        newObject();
        type();
        wipe();
        patterns();
        faults();
        faultLasts();
        loadBeginsAnew();
        throwingLoadChangesNothing();
        Check.end();
    }

    private static void newObject() {
        PatternWatch x = new PatternWatch();
        Check.due("new: fault", -1, x.fault());
        Check.due("new: runs", 0, x.runs());
        Check.figures("new", x, 0, 0, 0, 0, 0, 0, 0, 0);
        Check.thrown("new: event", IllegalStateException.class, () -> x.event('A', 0, 0, 0));
        Check.thrown("new: size", IndexOutOfBoundsException.class, () -> x.size(0));
        Check.thrown("new: at", IndexOutOfBoundsException.class, () -> x.at(0, 0));
        Check.thrown("new: run", IndexOutOfBoundsException.class, () -> x.run(0, 0));
        Check.thrown("new: load of the empty text", ARGUMENT, () -> x.load());
        Check.due("new: fault of the empty text", 0, x.fault());
        Check.typeAll(x, "A@" + "1".repeat(38));
        Check.due("new: the text was empty, so forty are in now", false, x.type('1'));
    }

    private static void type() {
        PatternWatch x = new PatternWatch();
        for (char c : "\0\t\n\r\u007f\u0080\u00e4\uffff".toCharArray()) {
            Check.due("type of code " + (int) c, false, x.type(c));
        }
        Check.typeAll(x, "A@5");
        Check.due("blank", false, x.type(' '));
        Check.due("what is refused is not in the text", 1, x.load());
        for (int c = 33; c <= 126; c++) {
            x.wipe();
            Check.due("type of code " + c, true, x.type((char) c));
        }
        Check.retype(x, "A+>-11B+>-11C+>-11D+>-11E+>-11F+>-11*@10");
        Check.due("the forty-first", false, x.type('1'));
        Check.due("load of forty", 7, x.load());
        Check.due("the forty-first is not in the text", 10, x.figure(7));
        Check.due("still full", false, x.type('A'));
    }

    private static void wipe() {
        PatternWatch x = Check.watch("AB@5");
        Check.feed(x, "A");
        x.wipe();
        x.wipe();
        Check.due("wipe leaves the runs", 1, x.runs());
        Check.figures("wipe leaves the pattern", x, 0, 1, 0, 0, 0, 0, 2, 5);
        Check.due("wipe leaves the pattern working", 1, Check.feed(x, "B"));
        Check.match("wipe", x, 0, 0, 1);
        Check.thrown("load of the wiped text", ARGUMENT, () -> x.load());
        Check.due("fault of the wiped text", 0, x.fault());
        Check.typeAll(x, "C@7");
        Check.due("only what came after wipe is read", 1, x.load());
        Check.due("only what came after wipe is read", 7, x.figure(7));
    }

    private static void patterns() {
        for (int i = 0; i < PATTERNS.length; i += 3) {
            Check.isPattern(PATTERNS[i], Integer.parseInt(PATTERNS[i + 1]), Integer.parseInt(PATTERNS[i + 2]));
        }
    }

    private static void faults() {
        for (int i = 0; i < FAULTS.length; i += 2) {
            Check.isNoPattern(FAULTS[i], Integer.parseInt(FAULTS[i + 1]));
        }
    }

    private static void faultLasts() {
        PatternWatch x = new PatternWatch();
        Check.typeAll(x, "AB!");
        Check.due("before any load", -1, x.fault());
        Check.thrown("load", ARGUMENT, () -> x.load());
        Check.due("after it threw", 3, x.fault());
        x.wipe();
        Check.due("after wipe", 3, x.fault());
        Check.typeAll(x, "A@5");
        Check.due("after type", 3, x.fault());
        x.load();
        Check.due("after one that did not throw", -1, x.fault());
        x.type('x');
        Check.due("after type again", -1, x.fault());
        Check.thrown("load", ARGUMENT, () -> x.load());
        Check.due("the latest that threw", 3, x.fault());
        Check.feed(x, "A");
        Check.due("after an event", 3, x.fault());
        Check.retype(x, "A+@");
        Check.thrown("load", ARGUMENT, () -> x.load());
        Check.due("the latest of two that threw", 2, x.fault());
    }

    private static void loadBeginsAnew() {
        PatternWatch x = Check.watch("AB!CB@9");
        x.event('A', 0, 0, 10);
        x.event('A', 0, 0, 10);
        Check.feed(x, "ABC" + "A".repeat(25));
        Check.due("one was dropped before", 1, x.figure(3));
        Check.retype(x, "*A@8");
        Check.due("load of another", 2, x.load());
        Check.due("no runs", 0, x.runs());
        Check.figures("loaded", x, 0, 0, 0, 0, 0, 0, 2, 8);
        Check.feed(x, "BBA");
        Check.match("numbers begin anew", x, 0, 0, 2);
        Check.due("load again of the same text", 2, x.load());
        Check.thrown("no matches", IndexOutOfBoundsException.class, () -> x.size(0));
        Check.thrown("no matches", IndexOutOfBoundsException.class, () -> x.at(0, 0));
        Check.due("no runs", 0, x.runs());
        Check.figures("loaded again", x, 0, 0, 0, 0, 0, 0, 2, 8);
        // Nothing of a pattern before is left in the elements that are used again.
        Check.retype(x, "A=5!B>3C+<pD#@1");
        x.load();
        Check.retype(x, "ABCD@2");
        x.load();
        Check.due("first text again", 1, Check.feed(x, "ABCD"));
        x.load();
        x.event('A', 0, 0, 0);
        x.event('B', 1, 9, 0);
        x.event('C', 2, 10, 0);
        Check.due("no condition, no key, nothing repeated", 0, x.event('C', 0, 0, 0));
        Check.run("no condition, no key, nothing repeated", x, 0, 2, 3, 0, 2);
        Check.due("no condition, no key, nothing repeated", 1, x.event('D', 3, 11, 2));
    }

    private static void throwingLoadChangesNothing() {
        PatternWatch x = Check.watch("A*+*@99");
        x.event('A', 1, 2, 3);
        Check.due("a match", 0, Check.feed(x, "B"));
        Check.due("a match", 1, Check.feed(x, "C"));
        int matchSize = x.size(0);
        Check.retype(x, "AB+CD@1x");
        Check.thrown("load", ARGUMENT, () -> x.load());
        Check.due("the fault", 7, x.fault());
        Check.due("runs", 1, x.runs());
        Check.run("run", x, 0, 1, 3, 0, 2);
        Check.due("match", matchSize, x.size(0));
        Check.match("match", x, 0, 0, 1, 2);
        Check.figures("figures", x, 3, 3, 1, 0, 0, 0, 3, 99);
        Check.due("the text stays", 1, Check.feed(x, "D"));
        Check.thrown("the text stays", ARGUMENT, () -> x.load());
        Check.match("still the old pattern", x, 0, 0, 1, 2, 3);
    }
}
