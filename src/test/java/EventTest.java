/** Promises 6 to 8, event, size and at, with what the section "Terms" says is done when an event comes. */
public final class EventTest {
    private static final Class<IllegalArgumentException> ARGUMENT = IllegalArgumentException.class;
    private static final Class<IndexOutOfBoundsException> INDEX = IndexOutOfBoundsException.class;

    public static void main(String[] args) {
        wrongEvents();
        wrongEventChangesNothing();
        edgesOfAnEvent();
        wrongMatches();
        matchesAreTheLatestEvents();
        oneStep();
        kinds();
        conditions();
        conditionsWithLast();
        keyed();
        window();
        barred();
        barredBeforeAll();
        repeated();
        stayAndGoOn();
        atMostTwelve();
        nineteenEvents();
        dropped();
        goneLeaveAtOnce();
        roomComesInOrder();
        newcomersAreNotLookedAt();
        Check.end();
    }

    private static void wrongEvents() {
        PatternWatch none = new PatternWatch();
        Check.thrown("no pattern", IllegalStateException.class, () -> none.event('A', 0, 0, 0));
        Check.thrown("no pattern and a wrong kind", IllegalStateException.class, () -> none.event('G', 0, 0, 0));
        PatternWatch x = Check.watch("*@9");
        for (char kind : "@Gaf*#0 \0\uffff".toCharArray()) {
            Check.thrown("kind " + (int) kind, ARGUMENT, () -> x.event(kind, 0, 0, 0));
        }
        for (int far : new int[] {Integer.MIN_VALUE, -1001, 1001, Integer.MAX_VALUE}) {
            Check.thrown("key " + far, ARGUMENT, () -> x.event('A', far, 0, 0));
            Check.thrown("value " + far, ARGUMENT, () -> x.event('A', 0, far, 0));
            Check.thrown("passed " + far, ARGUMENT, () -> x.event('A', 0, 0, far));
        }
        Check.thrown("key -1", ARGUMENT, () -> x.event('A', -1, 0, 0));
        Check.thrown("key 10", ARGUMENT, () -> x.event('A', 10, 0, 0));
        Check.thrown("value -101", ARGUMENT, () -> x.event('A', 0, -101, 0));
        Check.thrown("value 101", ARGUMENT, () -> x.event('A', 0, 101, 0));
        Check.thrown("passed -1", ARGUMENT, () -> x.event('A', 0, 0, -1));
    }

    private static void wrongEventChangesNothing() {
        PatternWatch x = Check.watch("A+B@9");
        Check.feed(x, "AB");
        Check.thrown("wrong event", ARGUMENT, () -> x.event('A', 0, 0, 1001));
        Check.thrown("wrong event", ARGUMENT, () -> x.event('A', 0, 200, 5));
        Check.thrown("wrong event", ARGUMENT, () -> x.event('A', 10, 0, 5));
        Check.thrown("wrong event", ARGUMENT, () -> x.event('G', 0, 0, 5));
        Check.figures("wrong event", x, 0, 2, 1, 0, 0, 0, 2, 9);
        Check.match("wrong event", x, 0, 0, 1);
        Check.due("wrong event", 0, x.runs());
    }

    private static void edgesOfAnEvent() {
        PatternWatch x = Check.watch("*@0");
        for (char kind = 'A'; kind <= 'F'; kind++) {
            Check.due("kind " + kind, 1, x.event(kind, 0, 0, 0));
        }
        for (int key = 0; key <= 9; key++) {
            Check.due("key " + key, 1, x.event('A', key, 0, 0));
        }
        Check.due("value -100", 1, x.event('A', 0, -100, 0));
        Check.due("value 100", 1, x.event('A', 0, 100, 0));
        Check.due("passed 1000", 1, x.event('A', 0, 0, 1000));
        Check.due("the time", 1000, x.figure(0));
    }

    private static void wrongMatches() {
        PatternWatch x = Check.watch("A+B@9");
        Check.feed(x, "AAB");
        Check.match("first", x, 0, 0, 1, 2);
        Check.match("second", x, 1, 1, 2);
        for (int i : new int[] {Integer.MIN_VALUE, -1, 2, 24, 25, Integer.MAX_VALUE}) {
            Check.thrown("size(" + i + ")", INDEX, () -> x.size(i));
            Check.thrown("at(" + i + ", 0)", INDEX, () -> x.at(i, 0));
        }
        for (int k : new int[] {Integer.MIN_VALUE, -1, 3, 19, 20, Integer.MAX_VALUE}) {
            Check.thrown("at(0, " + k + ")", INDEX, () -> x.at(0, k));
        }
        Check.thrown("at(1, 2)", INDEX, () -> x.at(1, 2));
    }

    private static void matchesAreTheLatestEvents() {
        PatternWatch x = Check.watch("A!CB@9");
        Check.thrown("before any event", INDEX, () -> x.size(0));
        Check.due("A", 0, Check.feed(x, "A"));
        Check.thrown("no match", INDEX, () -> x.size(0));
        Check.due("B", 1, Check.feed(x, "B"));
        Check.match("B", x, 0, 0, 1);
        Check.due("an event that does not matter", 0, Check.feed(x, "E"));
        Check.thrown("the match is the one before's", INDEX, () -> x.size(0));
        Check.thrown("the match is the one before's", INDEX, () -> x.at(0, 0));
        Check.due("told once", 0, Check.feed(x, "B"));
    }

    private static void oneStep() {
        PatternWatch x = Check.watch("B>2#@0");
        for (int n = 0; n < 30; n++) {
            Check.due("one step", 1, x.event('B', n % 10, 3, 1));
            Check.match("one step", x, 0, n);
            Check.due("one step is never a run", 0, x.runs());
        }
        Check.due("another kind", 0, x.event('A', 0, 3, 0));
        Check.due("not greater", 0, x.event('B', 0, 2, 0));
        Check.figures("one step", x, 30, 32, 30, 0, 0, 0, 1, 0);
    }

    private static void kinds() {
        for (char kind = 'A'; kind <= 'F'; kind++) {
            PatternWatch x = Check.watch(kind + "@5");
            for (char other = 'A'; other <= 'F'; other++) {
                Check.due(other + " for " + kind, kind == other ? 1 : 0, x.event(other, 0, 0, 0));
            }
        }
    }

    private static void conditions() {
        for (int bound : new int[] {-99, -10, -1, 0, 1, 9, 10, 99}) {
            PatternWatch less = Check.watch("A<" + bound + "@1");
            PatternWatch equal = Check.watch("A=" + bound + "@1");
            PatternWatch greater = Check.watch("A>" + bound + "@1");
            for (int value = bound - 1; value <= bound + 1; value++) {
                Check.due(value + " < " + bound, value < bound, less.event('A', 0, value, 0) == 1);
                Check.due(value + " = " + bound, value == bound, equal.event('A', 0, value, 0) == 1);
                Check.due(value + " > " + bound, value > bound, greater.event('A', 0, value, 0) == 1);
            }
        }
        PatternWatch minusZero = Check.watch("A=-0@1");
        Check.due("-0", 1, minusZero.event('A', 0, 0, 0));
        PatternWatch leadingZero = Check.watch("A=-07@1");
        Check.due("-07", 1, leadingZero.event('A', 0, -7, 0));
    }

    private static void conditionsWithLast() {
        PatternWatch rising = Check.watch("AB+>pC<p@9");
        rising.event('A', 0, 5, 0);
        rising.event('B', 0, 5, 0);
        Check.run("not more than the last", rising, 0, 0, 1, 0, 0);
        rising.event('B', 0, 6, 0);
        rising.event('B', 0, 6, 0);
        rising.event('B', 0, 9, 0);
        rising.event('B', 0, 8, 0);
        Check.run("the last one's, not the first one's", rising, 0, 1, 3, 0, 4);
        Check.due("not less than the last", 0, rising.event('C', 0, 9, 0));
        Check.due("less than the last, though more than the first", 1, rising.event('C', 0, 8, 0));
        Check.match("rising", rising, 0, 0, 2, 4, 7);
        PatternWatch same = Check.watch("AB=p@9");
        same.event('A', 0, -7, 0);
        same.event('A', 0, 7, 0);
        Check.due("equal", 1, same.event('B', 0, 7, 0));
        Check.match("equal", same, 0, 1, 2);
        // An event that is passed over is not the run's last one.
        Check.due("passed over", 0, same.event('E', 0, 3, 0));
        Check.due("passed over", 0, same.event('B', 0, 3, 0));
        Check.due("passed over", 1, same.event('B', 0, -7, 0));
    }

    private static void keyed() {
        PatternWatch x = Check.watch("A+!CB#@9");
        x.event('A', 3, 0, 0);
        x.event('A', 4, 0, 0);
        Check.due("step 0 does not ask for the key", 2, x.runs());
        Check.run("another key does not stay", x, 0, 0, 1, 0, 0);
        x.event('C', 5, 0, 0);
        Check.due("another key does not bar", 2, x.runs());
        x.event('A', 3, 0, 0);
        Check.run("the same key stays", x, 0, 0, 2, 0, 3);
        Check.run("another key does not stay", x, 1, 0, 1, 1, 1);
        Check.due("another key does not go on", 0, x.event('B', 5, 0, 0));
        Check.due("the same key goes on", 1, x.event('B', 4, 0, 0));
        Check.match("the same key goes on", x, 0, 1, 5);
        x.event('C', 3, 0, 0);
        Check.due("the same key bars", 0, x.runs());
        Check.due("the same key bars", 2, x.figure(5));
        PatternWatch apart = Check.watch("A+*B#@9");
        apart.event('A', 3, 0, 0);
        apart.event('A', 3, 0, 0);
        Check.due("the one gone on keeps the first one's key", 0, apart.event('B', 0, 0, 0));
        Check.due("the one gone on keeps the first one's key", 1, apart.event('B', 3, 0, 0));
        PatternWatch free = Check.watch("AB@9");
        free.event('A', 1, 0, 0);
        Check.due("not keyed", 1, free.event('B', 2, 0, 0));
    }

    private static void window() {
        PatternWatch x = Check.watch("AB@10");
        x.event('A', 0, 0, 500);
        Check.due("just the window", 1, x.event('B', 0, 0, 10));
        x.event('A', 0, 0, 500);
        Check.due("one more than the window", 0, x.event('B', 0, 0, 11));
        Check.figures("one more than the window", x, 1021, 4, 1, 0, 1, 0, 2, 10);
        PatternWatch nought = Check.watch("AB@0");
        nought.event('A', 0, 0, 5);
        Check.due("window 0, same time", 1, nought.event('B', 0, 0, 0));
        nought.event('A', 0, 0, 5);
        nought.event('C', 0, 0, 1);
        Check.due("an event that does not matter ends it too", 0, nought.runs());
        Check.due("gone because of the window", 1, nought.figure(4));
        PatternWatch first = Check.watch("A+B@10");
        first.event('A', 0, 0, 0);
        first.event('A', 0, 0, 6);
        Check.due("the first event's time counts, not the last one's", 1, first.event('B', 0, 0, 6));
        Check.match("the first event's time counts", first, 0, 1, 2);
        Check.due("the first event's time counts", 1, first.figure(4));
        PatternWatch apart = Check.watch("A+*B@10");
        apart.event('A', 0, 0, 20);
        apart.event('A', 0, 0, 6);
        Check.due("the one gone on keeps the first one's time", 1, apart.event('B', 0, 0, 4));
        apart.event('A', 0, 0, 20);
        apart.event('A', 0, 0, 6);
        Check.due("the one gone on keeps the first one's time", 0, apart.event('B', 0, 0, 5));
    }

    private static void barred() {
        PatternWatch x = Check.watch("A!B>5!C<pDE@9");
        x.event('A', 0, 3, 0);
        x.event('B', 0, 5, 0);
        x.event('C', 0, 3, 0);
        Check.due("neither fits", 1, x.runs());
        x.event('B', 0, 6, 0);
        Check.due("the first barred one", 0, x.runs());
        x.event('A', 0, 3, 0);
        x.event('C', 0, 2, 0);
        Check.due("the second barred one, with the last value", 0, x.runs());
        Check.due("both", 2, x.figure(5));
        Check.feed(x, "AD");
        x.event('B', 0, 9, 0);
        Check.due("not between step 1 and step 2", 1, x.runs());
        Check.due("not between step 1 and step 2", 1, Check.feed(x, "E"));
        PatternWatch behind = Check.watch("AB!CD@9");
        Check.feed(behind, "AC");
        Check.due("not between step 0 and step 1", 1, behind.runs());
        Check.feed(behind, "BC");
        Check.due("between step 1 and step 2", 0, behind.runs());
        Check.due("between step 1 and step 2", 1, behind.figure(5));
    }

    private static void barredBeforeAll() {
        PatternWatch x = Check.watch("A+!**@9");
        Check.feed(x, "A");
        Check.due("barred comes before going on and staying", 0, Check.feed(x, "A"));
        Check.due("and the event still begins a run", 1, x.runs());
        Check.run("and the event still begins a run", x, 0, 0, 1, 1, 1);
        x.event('B', 0, 0, 10);
        Check.figures("the window comes before what is barred", x, 10, 3, 0, 0, 1, 1, 2, 9);
    }

    private static void repeated() {
        PatternWatch x = Check.watch("A+B+C@9");
        Check.feed(x, "AA");
        Check.run("A stays", x, 0, 0, 2, 0, 1);
        Check.run("A begins", x, 1, 0, 1, 1, 1);
        Check.feed(x, "B");
        Check.run("only going on keeps the place", x, 0, 1, 3, 0, 2);
        Check.run("only going on keeps the place", x, 1, 1, 2, 1, 2);
        Check.feed(x, "EBA");
        Check.run("an A neither goes on nor stays in step 1", x, 0, 1, 4, 0, 4);
        Check.run("the new one is at the end", x, 2, 0, 1, 5, 5);
        Check.due("C", 2, Check.feed(x, "C"));
        Check.match("first", x, 0, 0, 1, 2, 4, 6);
        Check.match("second", x, 1, 1, 2, 4, 6);
        Check.due("step 0 is not before the last", 1, x.runs());
        Check.run("the third moved up", x, 0, 0, 1, 5, 5);
        PatternWatch plain = Check.watch("ABC@9");
        Check.feed(plain, "ABB");
        Check.run("not repeated: the second B is passed over", plain, 0, 1, 2, 0, 1);
    }

    private static void stayAndGoOn() {
        PatternWatch x = Check.watch("A+*C@9");
        Check.feed(x, "AA");
        Check.due("stayed, went on, began", 3, x.runs());
        Check.run("the one that stays keeps the place", x, 0, 0, 2, 0, 1);
        Check.run("the one that goes on, as it was, is at the end", x, 1, 1, 2, 0, 1);
        Check.run("the new one is behind it", x, 2, 0, 1, 1, 1);
        Check.due("C", 1, Check.feed(x, "C"));
        Check.match("only the run of step 1 matches", x, 0, 0, 1, 2);
        Check.due("two go on, keeping their places", 2, x.runs());
        Check.run("two go on", x, 0, 1, 3, 0, 2);
        Check.run("two go on", x, 1, 1, 2, 1, 2);
        // The new event is the last of both, but the run as it was is what goes on.
        PatternWatch last = Check.watch("A*+>p*=pC@9");
        last.event('A', 0, 0, 0);
        last.event('B', 0, 4, 0);
        last.event('B', 0, 6, 0);
        Check.due("step 2 is compared with the run as it was", 1, last.runs());
        Check.run("it only stayed", last, 0, 1, 3, 0, 2);
        // A match by an event that also stays leaves the run where it is.
        PatternWatch match = Check.watch("AB+*@9");
        Check.feed(match, "AB");
        Check.due("match and stay", 1, Check.feed(match, "B"));
        Check.match("match and stay", match, 0, 0, 1, 2);
        Check.run("match and stay", match, 0, 1, 3, 0, 2);
        Check.due("match alone", 1, Check.feed(match, "C"));
        Check.match("match alone", match, 0, 0, 1, 2, 3);
        Check.due("match alone", 0, match.runs());
    }

    private static void atMostTwelve() {
        PatternWatch x = Check.watch("AB+C@9");
        Check.feed(x, "ABBBBBBBBBB");
        Check.run("eleven", x, 0, 1, 11, 0, 10);
        Check.feed(x, "B");
        Check.run("twelve", x, 0, 1, 12, 0, 11);
        Check.feed(x, "BB");
        Check.run("no thirteenth by staying", x, 0, 1, 12, 0, 11);
        Check.due("but by going on", 1, Check.feed(x, "C"));
        Check.match("thirteen", x, 0, 0, 1, 2, 3, 4, 5, 6, 7, 8, 9, 10, 11, 14);
        PatternWatch both = Check.watch("AB+*@9");
        Check.feed(both, "ABBBBBBBBBBB");
        Check.run("twelve", both, 0, 1, 12, 0, 11);
        Check.due("with twelve it only goes on", 1, Check.feed(both, "B"));
        Check.due("with twelve it only goes on", 0, both.runs());
        PatternWatch next = Check.watch("AB+C+D@9");
        Check.feed(next, "ABBBBBBBBBBBC");
        Check.run("thirteen in the next step", next, 0, 2, 13, 0, 12);
        Check.feed(next, "C");
        Check.run("with thirteen it does not stay", next, 0, 2, 13, 0, 12);
    }

    private static void nineteenEvents() {
        PatternWatch x = Check.watch("A+=0B+C+D+E+F+AB@9");
        Check.feed(x, "A".repeat(12));
        Check.due("twelve runs", 12, x.runs());
        for (char kind = 'B'; kind <= 'F'; kind++) {
            x.event(kind, 0, 1, 0);
        }
        x.event('A', 0, 1, 0);
        Check.run("eighteen", x, 0, 6, 18, 0, 17);
        Check.due("all match", 12, x.event('B', 0, 1, 0));
        Check.match("nineteen", x, 0, 0, 1, 2, 3, 4, 5, 6, 7, 8, 9, 10, 11, 12, 13, 14, 15, 16, 17, 18);
        Check.match("the last", x, 11, 11, 12, 13, 14, 15, 16, 17, 18);
        Check.due("no run is left", 0, x.runs());
    }

    private static void dropped() {
        PatternWatch x = Check.watch("AB@9");
        Check.feed(x, "A".repeat(24));
        Check.due("twenty-four", 24, x.runs());
        Check.due("none dropped", 0, x.figure(3));
        Check.feed(x, "AA");
        Check.due("twenty-four", 24, x.runs());
        Check.due("two dropped", 2, x.figure(3));
        Check.run("the last is the twenty-fourth", x, 23, 0, 1, 23, 23);
        Check.due("all match", 24, Check.feed(x, "B"));
        Check.match("the first", x, 0, 0, 26);
        Check.match("the last", x, 23, 23, 26);
        Check.due("the matches that all were", 24, x.figure(2));
        // A run that goes on beside the one that stays is dropped like a new one.
        PatternWatch y = Check.watch("A+*C@9");
        Check.feed(y, "AAA");
        Check.due("three of step 0, three gone on", 6, y.runs());
        Check.feed(y, "AAA");
        Check.due("six of step 0, fifteen gone on", 21, y.runs());
        Check.feed(y, "A");
        Check.due("full", 24, y.runs());
        Check.due("six to go on, one to begin, three places", 4, y.figure(3));
        Check.due("a match is never dropped", 18, Check.feed(y, "C"));
        Check.due("a match is never dropped", 4, y.figure(3));
    }

    private static void goneLeaveAtOnce() {
        PatternWatch window = Check.watch("A+A>5C@5");
        window.event('A', 0, 0, 0);
        window.event('A', 0, 0, 5);
        Check.feed(window, "A".repeat(22));
        Check.due("full", 24, window.runs());
        // One goes, twelve are too long to stay, eleven do both, one begins: a single place is free for the twelve.
        window.event('A', 0, 9, 1);
        Check.figures("the place of the one that went", window, 6, 25, 0, 11, 1, 0, 3, 5);
        Check.run("went on and kept its place", window, 0, 1, 13, 1, 24);
        Check.run("stayed", window, 12, 0, 12, 13, 24);
        Check.run("went on and came to the end", window, 23, 1, 12, 13, 24);
        PatternWatch match = Check.watch("A*=p@9");
        for (int value = 1; value <= 24; value++) {
            match.event('A', 0, value, 0);
        }
        Check.due("full", 24, match.runs());
        Check.due("one matches", 1, match.event('A', 0, 24, 0));
        Check.due("the new one has its place", 24, match.runs());
        Check.due("none dropped", 0, match.figure(3));
        Check.run("the new one is at the end", match, 23, 0, 1, 24, 24);
    }

    /** A run that goes leaves room only for those that are looked at behind it. */
    private static void roomComesInOrder() {
        PatternWatch x = Check.watch("A+A>5!A=9C@9");
        Check.feed(x, "A".repeat(12));
        x.event('A', 0, 9, 0);
        Check.due("twelve, eleven gone on beside them, one new", 24, x.runs());
        x.event('A', 0, 9, 0);
        // The first is barred; of ten that do both one finds its place; then eleven are barred, and there is room.
        Check.figures("second time", x, 0, 14, 0, 9, 0, 12, 3, 9);
        Check.due("second time", 15, x.runs());
        Check.run("too long to stay", x, 0, 1, 13, 1, 13);
        Check.run("stayed, found a place", x, 1, 0, 12, 2, 13);
        Check.run("stayed, found none", x, 2, 0, 11, 3, 13);
        Check.run("stayed, came behind those that went", x, 11, 0, 2, 12, 13);
        Check.run("the one that found a place", x, 12, 1, 12, 2, 13);
        Check.run("the one that came behind those that went", x, 13, 1, 2, 12, 13);
        Check.run("the new one", x, 14, 0, 1, 13, 13);
    }

    /** What the event itself puts at the end is not looked at by that event. */
    private static void newcomersAreNotLookedAt() {
        PatternWatch x = Check.watch("A+*<5!AB@9");
        Check.feed(x, "AA");
        Check.due("stays, goes on, begins", 3, x.runs());
        Check.due("the one gone on is not barred at once", 0, x.figure(5));
        Check.feed(x, "A");
        Check.due("the one gone on is barred; two stay and go on, one begins", 5, x.runs());
        Check.due("the one gone on is barred", 1, x.figure(5));
        Check.run("order", x, 0, 0, 3, 0, 2);
        Check.run("order", x, 1, 0, 2, 1, 2);
        Check.run("order", x, 2, 1, 3, 0, 2);
        Check.run("order", x, 3, 1, 2, 1, 2);
        Check.run("order", x, 4, 0, 1, 2, 2);
    }
}
