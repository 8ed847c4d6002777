/** The edges of promise 6 and of an event and what it fits in "Terms": a test for each sentence that names one. */
public final class EventEdgeTest {
    private static final Class<IllegalArgumentException> ARGUMENT = IllegalArgumentException.class;
    private static final Class<IllegalStateException> STATE = IllegalStateException.class;
    private static final int[] VALUES = {-100, -99, -50, -1, 0, 1, 50, 99, 100};

    public static void main(String[] args) {
        everyKind();
        keys();
        values();
        passed();
        refusedEventChangesNothing();
        severalWrong();
        noPattern();
        noPatternAndWrong();
        numbersFromNought();
        timeFromNought();
        fiveHundredAndTwelveCalls();
        howManyMatches();
        kindOfAnElement();
        anyKind();
        conditionsWithNumbers();
        conditionsWithLast();
        lastOfTheRun();
        keyOfTheFirst();
        keyDoesNotMatter();
        Check.end();
    }

    private static boolean isKind(int code) {
        return code >= 'A' && code <= 'F';
    }

    /** An object with a run and the matches of the latest event, all of which an event that throws must leave. */
    private static PatternWatch underWay() {
        PatternWatch x = Check.watch("A+*@50");
        x.event('A', 1, 2, 3);
        x.event('A', 4, 5, 6);
        x.event('A', 7, 8, 9);
        return x;
    }

    /** This event is refused in the midst of others, and the next one is as if it had not come. */
    private static void wrongEvent(String what, char kind, int key, int value, int passed) {
        PatternWatch x = underWay();
        Check.refused(what, ARGUMENT, x, () -> x.event(kind, key, value, passed));
        Check.due(what + ": the next event", 3, x.event('B', 0, 0, 10));
        Check.match(what + ": the next event", x, 0, 0, 1, 2, 3);
        Check.due(what + ": the time", 28, x.figure(0));
        Check.due(what + ": the events", 4, x.figure(1));
    }

    private static void everyKind() {
        Check.sentence("a KIND, one of the letters A .. F");
        for (int code = 0; code <= Character.MAX_VALUE; code++) {
            char kind = (char) code;
            PatternWatch x = Check.watch("*@0");
            if (isKind(code)) {
                Check.due("kind " + code, 1, x.event(kind, 0, 0, 0));
            } else {
                Check.thrown("kind " + code, ARGUMENT, () -> x.event(kind, 0, 0, 0));
                Check.due("kind " + code + " is no event", 0, x.figure(1));
            }
        }
        for (char kind : "@Gaf*! \0\uffff".toCharArray()) {
            wrongEvent("kind " + (int) kind, kind, 0, 0, 1);
        }
    }

    private static void keys() {
        Check.sentence("a KEY 0 .. 9");
        for (int key : new int[] {0, 1, 8, 9}) {
            Check.due("key " + key, 3, underWay().event('A', key, 0, 0));
        }
        for (int key : new int[] {Integer.MIN_VALUE, -256, -10, -9, -1, 10, 11, 256, 65536, Integer.MAX_VALUE}) {
            wrongEvent("key " + key, 'A', key, 0, 1);
        }
    }

    private static void values() {
        Check.sentence("a VALUE -100 .. 100");
        for (int value = -100; value <= 100; value++) {
            Check.due("value " + value, 3, underWay().event('A', 0, value, 0));
        }
        for (int value : new int[] {Integer.MIN_VALUE, -256, -102, -101, 101, 102, 256, 65536, Integer.MAX_VALUE}) {
            wrongEvent("value " + value, 'A', 0, value, 1);
        }
    }

    private static void passed() {
        Check.sentence("grows by 0 .. 1000 from event to event");
        for (int passed : new int[] {0, 1, 500, 999, 1000}) {
            PatternWatch x = underWay();
            x.event('A', 0, 0, passed);
            Check.due("passed " + passed, 18 + passed, x.figure(0));
            Check.due("passed " + passed, 4, x.figure(1));
        }
        for (int passed : new int[] {Integer.MIN_VALUE, -1000, -1, 1001, 65536, Integer.MAX_VALUE}) {
            wrongEvent("passed " + passed, 'A', 0, 0, passed);
        }
    }

    private static void refusedEventChangesNothing() {
        Check.sentence("illegal argument: kind is not A .. F, key, value or passed (by which the time grows)"
            + " are out of range");
        // Each of these would end the runs by the window, be barred, or begin a run, if it were looked at.
        PatternWatch x = Check.watch("A!BDC@5");
        Check.feed(x, "AA");
        Check.refused("time", ARGUMENT, x, () -> x.event('A', 0, 0, 1001));
        Check.refused("barred", ARGUMENT, x, () -> x.event('B', 10, 0, 0));
        Check.refused("going on", ARGUMENT, x, () -> x.event('D', 0, 101, 0));
        Check.refused("time and a wrong key", ARGUMENT, x, () -> x.event('A', -1, 0, 6));
        Check.refused("time and a wrong value", ARGUMENT, x, () -> x.event('A', 0, -101, 6));
        Check.refused("time and a wrong kind", ARGUMENT, x, () -> x.event('G', 0, 0, 6));
        Check.feed(x, "D");
        Check.due("both go on as if nothing had been", 2, Check.feed(x, "C"));
        Check.match("the numbers go on", x, 0, 0, 2, 3);
        Check.refused("the matches stay", ARGUMENT, x, () -> x.event('G', 0, 0, 0));
        Check.match("the matches stay", x, 1, 1, 2, 3);
    }

    private static void severalWrong() {
        Check.sentence("illegal argument: kind is not A .. F, key, value or passed (by which the time grows)"
            + " are out of range");
        wrongEvent("kind and key", 'G', 10, 0, 0);
        wrongEvent("value and passed", 'A', 0, 101, 1001);
        wrongEvent("all", '@', -1, -101, -1);
    }

    private static void noPattern() {
        Check.sentence("Illegal state: there is no pattern");
        PatternWatch x = new PatternWatch();
        Check.refused("new", STATE, x, () -> x.event('A', 0, 0, 0));
        Check.typeAll(x, "A@5");
        Check.refused("typed, not loaded", STATE, x, () -> x.event('A', 0, 0, 0));
        Check.typeAll(x, "x");
        Check.thrown("load", ARGUMENT, () -> x.load());
        Check.refused("the load threw", STATE, x, () -> x.event('A', 0, 0, 0));
        Check.retype(x, "A@5");
        x.load();
        Check.due("those that were refused are no events", 0, x.figure(1));
        Check.due("loaded", 1, x.event('A', 0, 0, 0));
        x.wipe();
        Check.due("the text does not matter any more", 1, x.event('A', 0, 0, 0));
        Check.thrown("load", ARGUMENT, () -> x.load());
        Check.due("nor does a load that throws behind it", 1, x.event('A', 0, 0, 0));
    }

    private static void noPatternAndWrong() {
        Check.sentence("Illegal state: there is no pattern");
        PatternWatch x = new PatternWatch();
        Check.refused("kind", STATE, x, () -> x.event('G', 0, 0, 0));
        Check.refused("key", STATE, x, () -> x.event('A', 10, 0, 0));
        Check.refused("value", STATE, x, () -> x.event('A', 0, 101, 0));
        Check.refused("passed", STATE, x, () -> x.event('A', 0, 0, -1));
    }

    private static void numbersFromNought() {
        Check.sentence("Events have NUMBERS 0, 1, .. since the pattern was loaded.");
        PatternWatch x = Check.watch("A@5");
        for (int load = 0; load < 2; load++) {
            for (int n = 0; n < 60; n++) {
                // Every third one does not matter, but has its number too.
                x.event(n % 3 == 2 ? 'B' : 'A', 0, 0, 0);
                if (n % 3 != 2) {
                    Check.match("event " + n, x, 0, n);
                }
            }
            x.load();
        }
    }

    private static void timeFromNought() {
        Check.sentence("a TIME, which is 0 at first");
        PatternWatch x = Check.watch("AB@0");
        Check.due("before the first event", 0, x.figure(0));
        x.event('A', 0, 0, 0);
        Check.due("the first event may be at 0", 0, x.figure(0));
        x.event('A', 0, 0, 1000);
        x.event('A', 0, 0, 1000);
        Check.due("the passed times add up", 2000, x.figure(0));
        x.load();
        Check.due("loaded", 0, x.figure(0));
        x.event('A', 0, 0, 7);
        Check.due("the first event's own time has passed too", 7, x.figure(0));
    }

    private static void fiveHundredAndTwelveCalls() {
        Check.sentence("An object is used for at most 512 calls after it has been made");
        PatternWatch x = new PatternWatch();
        x.type('A');
        x.type('B');
        x.type('@');
        x.type('0');
        x.load();
        for (int call = 6; call <= 508; call++) {
            x.event('A', 0, 0, 1000);
        }
        Check.due("the longest time, call 509", 503000, x.figure(0));
        Check.due("call 510", 1, x.event('B', 0, 0, 0));
        Check.due("the highest numbers, call 511", 503, x.at(0, 1));
        Check.due("the runs that went, call 512", 502, x.figure(4));
    }

    private static void howManyMatches() {
        Check.sentence("An event: how many matches it completed.");
        for (int count = 0; count <= 26; count++) {
            PatternWatch x = Check.watch("AB@9");
            Check.feed(x, "A".repeat(count));
            int want = Math.min(count, 24);
            Check.due(count + " runs", want, x.event('B', 0, 0, 0));
            Check.due(count + " runs", want, Check.matches(x));
            Check.due("none is left for a second time", 0, x.event('B', 0, 0, 0));
            Check.due("in all", want, x.figure(2));
        }
    }

    private static void kindOfAnElement() {
        Check.sentence("An event FITS an element for a run if its kind is the element's (any for '*')");
        for (char kind = 'A'; kind <= 'F'; kind++) {
            for (char other = 'A'; other <= 'F'; other++) {
                int want = kind == other ? 1 : 0;
                Check.due(other + " for step 0, " + kind, want, Check.watch(kind + "@5").event(other, 0, 0, 0));
                PatternWatch next = Check.watch("A" + kind + "@5");
                Check.feed(next, "A");
                Check.due(other + " for step 1, " + kind, want, Check.feed(next, "" + other));
                PatternWatch barred = Check.watch("A!" + kind + "*@5");
                Check.feed(barred, "A");
                Check.due(other + " barred by " + kind, 1 - want, Check.feed(barred, "" + other));
                PatternWatch repeated = Check.watch(kind + "+A=9@5");
                Check.feed(repeated, "" + kind + other);
                Check.due(other + " stays for " + kind, 1 + want, repeated.run(0, 1));
            }
        }
    }

    private static void anyKind() {
        Check.sentence("An event FITS an element for a run if its kind is the element's (any for '*')");
        for (char kind = 'A'; kind <= 'F'; kind++) {
            String event = "" + kind;
            Check.due(kind + " for *", 1, Check.feed(Check.watch("*@5"), event));
            Check.due(kind + " for step 1, *", 1, Check.feed(Check.watch("A*@5"), "A" + event));
            PatternWatch barred = Check.watch("A!**@5");
            Check.due(kind + " barred by *", 0, Check.feed(barred, "A" + event));
            Check.due(kind + " barred by *", 1, barred.figure(5));
            PatternWatch repeated = Check.watch("*+A=9@5");
            Check.feed(repeated, "A" + event);
            Check.due(kind + " stays for *", 2, repeated.run(0, 1));
        }
    }

    private static void conditionsWithNumbers() {
        Check.sentence("if its value is less than, equal to or greater than what the condition says, if there"
            + " is one: the number");
        for (int bound = -99; bound <= 99; bound++) {
            PatternWatch less = Check.watch("A<" + bound + "@1");
            PatternWatch equal = Check.watch("A=" + bound + "@1");
            PatternWatch greater = Check.watch("A>" + bound + "@1");
            for (int value = -100; value <= 100; value++) {
                Check.due(value + " < " + bound, value < bound, less.event('A', 0, value, 0) == 1);
                Check.due(value + " = " + bound, value == bound, equal.event('A', 0, value, 0) == 1);
                Check.due(value + " > " + bound, value > bound, greater.event('A', 0, value, 0) == 1);
            }
        }
        Check.due("0 = -0", 1, Check.watch("A=-0@1").event('A', 0, 0, 0));
        Check.due("5 = 05", 1, Check.watch("A=05@1").event('A', 0, 5, 0));
        Check.due("-9 = -09", 1, Check.watch("A=-09@1").event('A', 0, -9, 0));
    }

    private static int second(String text, int firstValue, int secondValue) {
        PatternWatch x = Check.watch(text);
        x.event('A', 0, firstValue, 0);
        return x.event('B', 0, secondValue, 0);
    }

    private static void conditionsWithLast() {
        Check.sentence("or with 'p' the value of the run's last event");
        for (int last : VALUES) {
            for (int value = Math.max(last - 1, -100); value <= Math.min(last + 1, 100); value++) {
                Check.due(value + " < p, " + last, value < last ? 1 : 0, second("AB<p@1", last, value));
                Check.due(value + " = p, " + last, value == last ? 1 : 0, second("AB=p@1", last, value));
                Check.due(value + " > p, " + last, value > last ? 1 : 0, second("AB>p@1", last, value));
            }
        }
        Check.due("the ends", 1, second("AB<p@1", 100, -100));
        Check.due("the ends", 1, second("AB>p@1", -100, 100));
        Check.due("the ends", 0, second("AB=p@1", -100, 100));
    }

    private static void lastOfTheRun() {
        Check.sentence("or with 'p' the value of the run's last event");
        PatternWatch x = Check.watch("A+B=pC=p@9");
        x.event('A', 0, 1, 0);
        x.event('A', 0, 2, 0);
        x.event('E', 0, 3, 0);
        x.event('B', 0, 1, 0);
        Check.due("neither goes on: not the run's first event", 2, x.runs());
        Check.run("nor one that was passed over", x, 0, 0, 2, 0, 1);
        x.event('B', 0, 2, 0);
        Check.run("the one that it stayed with", x, 0, 1, 3, 0, 4);
        Check.run("the one that it began with", x, 1, 1, 2, 1, 4);
        Check.due("the one that it went on with", 2, x.event('C', 0, 2, 0));
        // A barred element and the step that is repeated ask for the run's last one, as it was before the event.
        PatternWatch barred = Check.watch("A+>-99!B=pC@9");
        barred.event('A', 0, 1, 0);
        barred.event('A', 0, 2, 0);
        barred.event('B', 0, 1, 0);
        Check.due("barred only by the last value", 2, barred.runs());
        barred.event('B', 0, 2, 0);
        Check.due("barred only by the last value", 0, barred.runs());
        PatternWatch rising = Check.watch("AB+>pC@9");
        rising.event('A', 0, 1, 0);
        rising.event('B', 0, 2, 0);
        rising.event('B', 0, 2, 0);
        Check.run("not greater than the one before", rising, 0, 1, 2, 0, 1);
        rising.event('B', 0, 3, 0);
        Check.run("greater than the one before", rising, 0, 1, 3, 0, 3);
    }

    private static void keyOfTheFirst() {
        Check.sentence("and, if the pattern is keyed, if its key is that of the run's first event");
        for (int first = 0; first <= 9; first++) {
            for (int key = 0; key <= 9; key++) {
                int want = first == key ? 1 : 0;
                PatternWatch next = Check.watch("AB#@9");
                next.event('A', first, 0, 0);
                Check.due("goes on, " + first + " and " + key, want, next.event('B', key, 0, 0));
                PatternWatch repeated = Check.watch("A+B#@9");
                repeated.event('A', first, 0, 0);
                repeated.event('A', key, 0, 0);
                Check.due("stays, " + first + " and " + key, 1 + want, repeated.run(0, 1));
                PatternWatch barred = Check.watch("A!CB#@9");
                barred.event('A', first, 0, 0);
                barred.event('C', key, 0, 0);
                Check.due("barred, " + first + " and " + key, 1 - want, barred.runs());
                PatternWatch apart = Check.watch("A+*B#@9");
                apart.event('A', first, 0, 0);
                apart.event('A', first, 0, 0);
                Check.due("one that went on beside it, " + first + " and " + key, want, apart.event('B', key, 0, 0));
                PatternWatch free = Check.watch("AB@9");
                free.event('A', first, 0, 0);
                Check.due("not keyed, " + first + " and " + key, 1, free.event('B', key, 0, 0));
            }
        }
    }

    private static void keyDoesNotMatter() {
        Check.sentence("(without a run: there is no condition with 'p', and its key does not matter)");
        PatternWatch x = Check.watch("AB#@9");
        for (int key = 0; key <= 9; key++) {
            x.event('A', key, 0, 0);
            Check.due("key " + key + " begins a run", key + 1, x.runs());
        }
        PatternWatch one = Check.watch("A#@9");
        for (int key = 0; key <= 9; key++) {
            Check.due("key " + key + " is a match", 1, one.event('A', key, 0, 0));
        }
    }
}
