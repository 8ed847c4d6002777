/** The edges of what is done with the list of runs when an event comes: a test for each sentence that names one. */
public final class ListEdgeTest {
    private static final String WINDOW =
        "If the event's time is more than the window behind that of"
        + " the run's first event, the run is gone.";
    private static final String BARRED =
        "Else, if the event fits a barred element that stands"
        + " between the run's step and the next step, the run is gone.";
    private static final String ORDER =
        "Every run is looked at, in the order of the list of runs as"
        + " it was before the event";
    private static final String DROPPED =
        "A run that is to be put at its end when 24 are there (those"
        + " that are gone leave it at once) is DROPPED.";
    private static final String TWELVE = "the run took fewer than 12 events";
    private static final String MATCHES =
        "The matches of an event are numbered 0, 1, .. in the order"
        + " in which they were found.";
    private static final String GONE = "(those that are gone leave it at once)";

    public static void main(String[] args) {
        justTheWindow();
        windowInParts();
        windowOfTheFirst();
        windowOfEveryRun();
        windowAndNewRun();
        windowBeforeBarred();
        barredBetween();
        barredNowhereElse();
        barredBeforeTheNextStep();
        barredCountsRuns();
        barredNotTheNewRun();
        fewerThanTwelve();
        twelveOfSeveralSteps();
        twelveAndGoingOn();
        staysAsItIs();
        oneThatOnlyGoesOn();
        oneThatOnlyStays();
        twoOfOne();
        twoOfOneAtTheLastStep();
        asItWasBefore();
        lastStep();
        onlyOneStep();
        newRunAtTheEnd();
        atMostTwentyFour();
        fullListAndGoingOn();
        fullListAndStaying();
        fullListAndMatches();
        roomAfterTheWindow();
        roomAfterABarredOne();
        roomAfterAMatch();
        roomOnlyForThoseBehind();
        roomOnlyBehindTheWindow();
        roomOnlyBehindAMatch();
        droppedIsNoRun();
        orderOfMatches();
        twentyFourMatches();
        Check.end();
    }

    private static PatternWatch fed(String text, String kinds) {
        PatternWatch x = Check.watch(text);
        Check.feed(x, kinds);
        return x;
    }

    private static void justTheWindow() {
        Check.sentence(WINDOW);
        for (int window : new int[] {0, 1, 2, 99, 500, 998, 999}) {
            for (int start : new int[] {0, 1, 1000}) {
                PatternWatch within = Check.watch("AB@" + window);
                within.event('A', 0, 0, start);
                Check.due("just " + window, 1, within.event('B', 0, 0, window));
                Check.due("just " + window, 0, within.figure(4));
                PatternWatch behind = Check.watch("AB@" + window);
                behind.event('A', 0, 0, start);
                Check.due("one more than " + window, 0, behind.event('B', 0, 0, window + 1));
                Check.due("one more than " + window, 1, behind.figure(4));
                Check.due("one more than " + window, 0, behind.runs());
            }
        }
    }

    private static void windowInParts() {
        Check.sentence(WINDOW);
        PatternWatch x = Check.watch("AB@999");
        x.event('A', 0, 0, 1000);
        x.event('C', 0, 0, 500);
        x.event('C', 0, 0, 499);
        Check.due("999 in two parts, by events that are passed over", 1, x.runs());
        x.event('C', 0, 0, 0);
        Check.due("nothing more has passed", 1, x.runs());
        x.event('C', 0, 0, 1);
        Check.due("any event ends it", 0, x.runs());
        Check.due("it went once", 1, x.figure(4));
        x.event('C', 0, 0, 1000);
        Check.due("it went once", 1, x.figure(4));
    }

    private static void windowOfTheFirst() {
        Check.sentence(WINDOW);
        PatternWatch x = Check.watch("A+BC@10");
        x.event('A', 0, 0, 0);
        x.event('A', 0, 0, 5);
        x.event('B', 0, 0, 5);
        Check.run("just the window", x, 0, 1, 3, 0, 2);
        Check.due("behind the first one's, not the last one's", 1, x.event('C', 0, 0, 1));
        Check.match("the other run began later", x, 0, 1, 2, 3);
        Check.due("one went", 1, x.figure(4));
    }

    private static void windowOfEveryRun() {
        Check.sentence(WINDOW);
        PatternWatch x = Check.watch("AB@3");
        for (int n = 0; n < 24; n++) {
            x.event('A', 0, 0, n % 8 == 7 ? 1 : 0);
        }
        Check.due("full", 24, x.runs());
        int[] left = {17, 9, 1, 0};
        for (int n = 0; n < left.length; n++) {
            x.event('C', 0, 0, 1);
            Check.due("time " + x.figure(0), left[n], x.runs());
            Check.due("time " + x.figure(0), 24 - left[n], x.figure(4));
        }
    }

    private static void windowAndNewRun() {
        Check.sentence(WINDOW);
        PatternWatch x = Check.watch("A+A@5");
        x.event('A', 0, 0, 0);
        Check.due("the event that ends a run", 0, x.event('A', 0, 0, 6));
        Check.due("may begin another", 1, x.runs());
        Check.run("may begin another", x, 0, 0, 1, 1, 1);
    }

    private static void windowBeforeBarred() {
        Check.sentence(BARRED);
        PatternWatch x = Check.watch("A!BC@5");
        x.event('A', 0, 0, 0);
        x.event('B', 0, 0, 5);
        Check.figures("within the window", x, 5, 2, 0, 0, 0, 1, 2, 5);
        x.event('A', 0, 0, 0);
        x.event('B', 0, 0, 6);
        Check.figures("behind the window it does not count as barred", x, 11, 4, 0, 0, 1, 1, 2, 5);
    }

    private static void barredBetween() {
        Check.sentence(BARRED);
        // One barred element, two and six: each of them counts, the first and the last.
        String[] texts = {"A!BC@9", "A!B!DC@9", "A!B!D!E!F!B=1!D=2C@9"};
        String[] kinds = {"B", "BD", "BDEF"};
        for (int i = 0; i < texts.length; i++) {
            for (char kind : kinds[i].toCharArray()) {
                PatternWatch x = fed(texts[i], "A" + kind);
                Check.due(kind + " in " + texts[i], 0, x.runs());
                Check.due(kind + " in " + texts[i], 1, x.figure(5));
                Check.due(kind + " in " + texts[i], 0, Check.feed(x, "C"));
            }
            Check.due("none came, " + texts[i], 1, Check.feed(fed(texts[i], "A"), "C"));
        }
        PatternWatch condition = Check.watch("A!B>5C@9");
        condition.event('A', 0, 0, 0);
        condition.event('B', 0, 5, 0);
        Check.due("just not", 1, condition.runs());
        condition.event('B', 0, 6, 0);
        Check.due("just", 0, condition.runs());
    }

    private static void barredNowhereElse() {
        Check.sentence(BARRED);
        PatternWatch before = fed("A!DBC@9", "ABD");
        Check.due("it stood before the run's step", 1, before.runs());
        Check.due("it stood before the run's step", 1, Check.feed(before, "C"));
        PatternWatch behind = fed("AB!DC@9", "AD");
        Check.due("it stands behind the next step", 1, behind.runs());
        Check.due("it stands behind the next step", 1, Check.feed(behind, "BC"));
        PatternWatch here = fed("A!DB!EC@9", "AE");
        Check.due("E is not barred in step 0", 1, here.runs());
        Check.feed(here, "BD");
        Check.due("D is not barred in step 1", 1, here.runs());
        Check.feed(here, "E");
        Check.due("E is", 0, here.runs());
        PatternWatch repeated = fed("AB+!DC@9", "ABBD");
        Check.due("behind a repeated step", 0, repeated.runs());
    }

    private static void barredBeforeTheNextStep() {
        Check.sentence("Else let it GO ON if it fits the next step");
        PatternWatch x = Check.watch("A!B>5B@9");
        x.event('A', 0, 0, 0);
        Check.due("it fits both: gone", 0, x.event('B', 0, 6, 0));
        Check.figures("it fits both: gone", x, 0, 2, 0, 0, 0, 1, 2, 9);
        x.event('A', 0, 0, 0);
        Check.due("it fits the next step alone", 1, x.event('B', 0, 5, 0));
        PatternWatch stay = Check.watch("A+!A>5B@9");
        stay.event('A', 0, 0, 0);
        stay.event('A', 0, 6, 0);
        Check.due("it fits the repeated step too: gone, but a new run", 1, stay.runs());
        Check.run("it fits the repeated step too: gone, but a new run", stay, 0, 0, 1, 1, 1);
    }

    private static void barredCountsRuns() {
        Check.sentence("5: how many because of a barred element");
        PatternWatch x = fed("A!B!*C@9", "A");
        Check.feed(x, "B");
        Check.due("two barred elements, one run", 1, x.figure(5));
        PatternWatch many = fed("A!BC@9", "A".repeat(24));
        Check.feed(many, "B");
        Check.due("one event, 24 runs", 24, many.figure(5));
        Check.due("one event, 24 runs", 0, many.runs());
        Check.feed(many, "B");
        Check.due("none is left", 24, many.figure(5));
    }

    private static void barredNotTheNewRun() {
        Check.sentence(ORDER);
        PatternWatch x = fed("A!AB@9", "A");
        Check.due("the event that begins a run does not bar it", 1, x.runs());
        Check.feed(x, "A");
        Check.due("but the next one does", 1, x.runs());
        Check.run("but the next one does", x, 0, 0, 1, 1, 1);
        PatternWatch next = fed("AA@9", "A");
        Check.due("nor does it go on at once", 1, next.runs());
        PatternWatch apart = fed("A+*!AB@9", "AA");
        Check.due("nor is the one that went on looked at again", 0, apart.figure(5));
        Check.due("nor is the one that went on looked at again", 3, apart.runs());
        PatternWatch three = fed("A+***@9", "AA");
        Check.run("nor does it go on twice", three, 1, 1, 2, 0, 1);
    }

    private static void fewerThanTwelve() {
        Check.sentence(TWELVE);
        PatternWatch x = Check.watch("A+C@9");
        for (int n = 0; n < 12; n++) {
            Check.feed(x, "A");
            Check.run("the first run", x, 0, 0, n + 1, 0, n);
        }
        Check.feed(x, "A");
        Check.run("no thirteenth", x, 0, 0, 12, 0, 11);
        Check.run("the second run has its twelfth now", x, 1, 0, 12, 1, 12);
        Check.feed(x, "A");
        Check.run("no thirteenth", x, 0, 0, 12, 0, 11);
        Check.run("no thirteenth", x, 1, 0, 12, 1, 12);
        Check.due("C", 14, Check.feed(x, "C"));
        Check.due("the step behind may be the thirteenth", 13, x.size(0));
        Check.due("its last event", 14, x.at(0, 12));
    }

    private static void twelveOfSeveralSteps() {
        Check.sentence(TWELVE);
        PatternWatch x = fed("A+>0B+C+D@9", "");
        x.event('A', 0, 1, 0);
        Check.feed(x, "BBBBBCCCCC");
        Check.run("eleven, of three steps", x, 0, 2, 11, 0, 10);
        Check.feed(x, "C");
        Check.run("twelve", x, 0, 2, 12, 0, 11);
        Check.feed(x, "C");
        Check.run("not thirteen", x, 0, 2, 12, 0, 11);
        PatternWatch behind = fed("AB+C+D@9", "ABBBBBBBBBBBC");
        Check.run("a step may be taken with twelve", behind, 0, 2, 13, 0, 12);
        Check.feed(behind, "C");
        Check.run("but not stayed in", behind, 0, 2, 13, 0, 12);
        Check.due("only gone on from", 1, Check.feed(behind, "D"));
        Check.due("only gone on from", 14, behind.size(0));
    }

    private static void twelveAndGoingOn() {
        Check.sentence(TWELVE);
        PatternWatch eleven = fed("AB+*C@9", "ABBBBBBBBBB");
        Check.due("ten went on beside the one that stays", 10, eleven.runs());
        Check.run("eleven", eleven, 0, 1, 11, 0, 10);
        Check.feed(eleven, "B");
        Check.due("with eleven it does both", 11, eleven.runs());
        Check.run("with eleven it does both", eleven, 0, 1, 12, 0, 11);
        Check.run("with eleven it does both", eleven, 10, 2, 12, 0, 11);
        Check.feed(eleven, "B");
        Check.due("with twelve it only goes on", 11, eleven.runs());
        Check.run("with twelve it only goes on, in its place", eleven, 0, 2, 13, 0, 12);
    }

    private static void staysAsItIs() {
        Check.sentence("If it neither goes on nor stays, the run stays as it is.");
        PatternWatch x = fed("AB+=0C@9", "AB");
        String run = Check.state(x).substring(Check.state(x).indexOf("run"));
        x.event('F', 9, 100, 9);
        x.event('B', 0, 1, 0);
        Check.same("passed over", run, Check.state(x).substring(Check.state(x).indexOf("run")));
        Check.due("nothing is counted but the events", 4, x.figure(1));
        Check.due("nothing is counted but the events", 0, x.figure(2) + x.figure(3) + x.figure(4) + x.figure(5));
    }

    private static void oneThatOnlyGoesOn() {
        Check.sentence("(One that only goes on keeps the place.)");
        PatternWatch x = Check.watch("AB=pC@9");
        for (int value = 0; value < 4; value++) {
            x.event('A', 0, value, 0);
        }
        x.event('B', 0, 1, 0);
        Check.run("before it", x, 0, 0, 1, 0, 0);
        Check.run("it", x, 1, 1, 2, 1, 4);
        Check.run("behind it", x, 2, 0, 1, 2, 2);
        Check.run("behind it", x, 3, 0, 1, 3, 3);
        Check.due("no more and no fewer", 4, x.runs());
    }

    private static void oneThatOnlyStays() {
        Check.sentence("If it stays, the run takes the event for the same step.");
        PatternWatch x = Check.watch("AB+C@9");
        Check.feed(x, "ABAB");
        Check.run("stayed", x, 0, 1, 3, 0, 3);
        Check.run("went on", x, 1, 1, 2, 2, 3);
        Check.due("no more and no fewer", 2, x.runs());
    }

    private static void twoOfOne() {
        Check.sentence("the one that stays keeps the place in the list, the one that goes on is put at the end"
            + " of the list");
        PatternWatch x = fed("A+*C@9", "AAA");
        Check.due("six", 6, x.runs());
        Check.run("the first stayed", x, 0, 0, 3, 0, 2);
        Check.run("the one that went on before, passed over", x, 1, 1, 2, 0, 1);
        Check.run("the second stayed", x, 2, 0, 2, 1, 2);
        Check.run("the first went on", x, 3, 1, 3, 0, 2);
        Check.run("the second went on", x, 4, 1, 2, 1, 2);
        Check.run("the new one is behind all", x, 5, 0, 1, 2, 2);
    }

    private static void twoOfOneAtTheLastStep() {
        Check.sentence("So an event that does both makes two of one");
        PatternWatch x = fed("A+*@9", "A");
        for (int n = 1; n < 12; n++) {
            Check.due("n goes on and stays", n, Check.feed(x, "A"));
            Check.due("n goes on and stays", n + 1, x.runs());
            Check.due("the match is of the run as it was", n + 1, x.size(0));
            Check.run("the run took it too", x, 0, 0, n + 1, 0, n);
        }
        Check.due("with twelve it is a match and no run any more", 12, Check.feed(x, "A"));
        Check.due("with twelve it is a match and no run any more", 12, x.runs());
        Check.run("the one behind it moved up", x, 0, 0, 12, 1, 12);
        Check.due("the match", 13, x.size(0));
    }

    private static void asItWasBefore() {
        Check.sentence("If it goes on, the run, as it was before the event, takes the event for the next step");
        PatternWatch x = Check.watch("A+=1*>p*@9");
        x.event('A', 0, 1, 0);
        x.event('A', 0, 1, 0);
        Check.due("compared with the event before, not with itself", 2, x.runs());
        PatternWatch both = fed("A+**@9", "AA");
        Check.run("the event is taken once", both, 1, 1, 2, 0, 1);
        Check.due("the match", 1, Check.feed(both, "B"));
        Check.match("the match", both, 0, 0, 1, 2);
    }

    private static void lastStep() {
        Check.sentence("if that is the last step, it is a MATCH, of all events that it took, and no run any"
            + " more; otherwise it is a run from now on");
        String kinds = "ABCDEFAB";
        for (int steps = 2; steps <= 8; steps++) {
            PatternWatch x = Check.watch(kinds.substring(0, steps) + "@9");
            for (int n = 0; n < steps - 1; n++) {
                Check.due("step " + n + " of " + steps, 0, Check.feed(x, kinds.substring(n, n + 1)));
                Check.run("step " + n + " of " + steps, x, 0, n, n + 1, 0, n);
            }
            Check.due("the last of " + steps, 1, Check.feed(x, kinds.substring(steps - 1, steps)));
            Check.due("the last of " + steps, steps, x.size(0));
            // The seventh of eight steps is an A, which begins a run that the eighth lets go on.
            Check.due("no run any more", steps >= 7 ? 1 : 0, x.runs());
        }
        PatternWatch longest = Check.watch("A+=0BCDEFAB@9");
        Check.feed(longest, "A".repeat(12));
        for (char kind : "BCDEFA".toCharArray()) {
            longest.event(kind, 0, 1, 0);
        }
        Check.run("one before the last", longest, 0, 6, 18, 0, 17);
        Check.due("the longest", 12, longest.event('B', 0, 1, 0));
        Check.due("all events that it took", 19, longest.size(0));
        for (int k = 0; k < 19; k++) {
            Check.due("all events that it took", k, longest.at(0, k));
        }
        Check.due("the shortest of them", 8, longest.size(11));
    }

    private static void onlyOneStep() {
        Check.sentence("if the pattern has only one step, it is a match instead");
        PatternWatch x = Check.watch("A@0");
        for (int n = 0; n < 30; n++) {
            Check.due("event " + n, 1, x.event('A', 0, 0, 1));
            Check.match("event " + n, x, 0, n);
        }
        Check.figures("never a run: none dropped, none gone", x, 30, 30, 30, 0, 0, 0, 1, 0);
        Check.due("never a run", 0, x.runs());
        PatternWatch two = fed("A!BA@9", "A");
        Check.due("a pattern of two steps is none of one", 0, two.figure(2));
        Check.due("a pattern of two steps is none of one", 1, two.runs());
    }

    private static void newRunAtTheEnd() {
        Check.sentence("there is a new run, which has taken this event for step 0, at the end of the list");
        PatternWatch x = fed("A>0B@9", "");
        for (int n = 0; n < 24; n++) {
            x.event('A', 0, 1, 0);
            Check.run("run " + n, x, n, 0, 1, n, n);
        }
        PatternWatch not = Check.watch("A>0B@9");
        not.event('A', 0, 0, 0);
        not.event('B', 0, 1, 0);
        Check.due("it does not fit step 0", 0, not.runs());
    }

    private static void atMostTwentyFour() {
        Check.sentence("The list has at most 24 runs.");
        PatternWatch x = fed("AB@9", "A".repeat(23));
        Check.due("23", 23, x.runs());
        Check.feed(x, "A");
        Check.due("the 24th", 24, x.runs());
        Check.due("none dropped yet", 0, x.figure(3));
        Check.feed(x, "A");
        Check.due("no 25th", 24, x.runs());
        Check.due("it is dropped", 1, x.figure(3));
        Check.run("those that were there stay", x, 0, 0, 1, 0, 0);
        Check.run("those that were there stay", x, 23, 0, 1, 23, 23);
        Check.feed(x, "C");
        Check.due("one that begins no run drops none", 1, x.figure(3));
    }

    private static void fullListAndGoingOn() {
        Check.sentence(DROPPED);
        PatternWatch x = fed("ABC@9", "A".repeat(24) + "B");
        Check.due("one that only goes on needs no room", 24, x.runs());
        Check.due("one that only goes on needs no room", 0, x.figure(3));
        Check.run("one that only goes on needs no room", x, 23, 1, 2, 23, 24);
        Check.due("nor does it need any for the match", 24, Check.feed(x, "C"));
        Check.due("nor does it need any for the match", 0, x.figure(3));
    }

    private static void fullListAndStaying() {
        Check.sentence(DROPPED);
        PatternWatch x = fed("AB+*>0C@9", "A".repeat(23) + "B");
        Check.due("23", 23, x.runs());
        x.event('B', 0, 1, 0);
        Check.due("the first finds the last place, the others none", 24, x.runs());
        Check.due("the first finds the last place, the others none", 22, x.figure(3));
        Check.run("the first stayed", x, 0, 1, 3, 0, 24);
        Check.run("the others stayed though they went on in vain", x, 22, 1, 3, 22, 24);
        Check.run("the first went on", x, 23, 2, 3, 0, 24);
        x.event('B', 0, 0, 0);
        Check.due("staying alone needs no room", 22, x.figure(3));
        Check.run("staying alone needs no room", x, 22, 1, 4, 22, 25);
    }

    private static void fullListAndMatches() {
        Check.sentence(DROPPED);
        PatternWatch x = fed("AB+*>0@9", "A".repeat(24) + "B");
        Check.due("a match is no run: it needs no room", 24, x.event('B', 0, 1, 0));
        Check.due("all stayed", 24, x.runs());
        Check.due("none dropped", 0, x.figure(3));
        Check.match("the last", x, 23, 23, 24, 25);
    }

    private static void roomAfterTheWindow() {
        Check.sentence(GONE);
        PatternWatch x = Check.watch("AB@5");
        x.event('A', 0, 0, 0);
        x.event('A', 0, 0, 1);
        Check.feed(x, "A".repeat(22));
        x.event('A', 0, 0, 4);
        Check.figures("all within the window", x, 5, 25, 0, 1, 0, 0, 2, 5);
        x.event('A', 0, 0, 1);
        Check.figures("the first is gone, the new one has its place", x, 6, 26, 0, 1, 1, 0, 2, 5);
        Check.due("full again", 24, x.runs());
        Check.run("at the end", x, 23, 0, 1, 25, 25);
    }

    private static void roomAfterABarredOne() {
        Check.sentence(GONE);
        PatternWatch x = Check.watch("A!*=pB@9");
        for (int value = 1; value <= 24; value++) {
            x.event('A', 0, value, 0);
        }
        x.event('A', 0, 0, 0);
        Check.figures("none is barred", x, 0, 25, 0, 1, 0, 0, 2, 9);
        x.event('A', 0, 24, 0);
        Check.figures("the last is barred, the new one has its place", x, 0, 26, 0, 1, 0, 1, 2, 9);
        Check.due("full again", 24, x.runs());
        Check.run("at the end", x, 23, 0, 1, 25, 25);
    }

    private static void roomAfterAMatch() {
        Check.sentence("it is a MATCH, of all events that it took, and no run any more");
        PatternWatch x = Check.watch("A*=p@9");
        for (int value = 1; value <= 24; value++) {
            x.event('A', 0, value, 0);
        }
        x.event('A', 0, 0, 0);
        Check.figures("no match", x, 0, 25, 0, 1, 0, 0, 2, 9);
        Check.due("one match", 1, x.event('A', 0, 13, 0));
        Check.figures("the new one has its place", x, 0, 26, 1, 1, 0, 0, 2, 9);
        Check.due("full again", 24, x.runs());
        Check.run("at the end", x, 23, 0, 1, 25, 25);
        Check.run("those behind the match moved up", x, 12, 0, 1, 13, 13);
    }

    private static void roomOnlyForThoseBehind() {
        Check.sentence(ORDER);
        PatternWatch x = Check.watch("A+A>5!A=9C@9");
        Check.feed(x, "A".repeat(12));
        x.event('A', 0, 9, 0);
        Check.due("twelve, eleven gone on beside them, one new", 24, x.runs());
        x.event('A', 0, 9, 0);
        // The first is barred; of ten that do both one finds its place; then eleven are barred, and there is room.
        Check.figures("nine are dropped before there is room", x, 0, 14, 0, 9, 0, 12, 3, 9);
        Check.due("nine are dropped before there is room", 15, x.runs());
    }

    private static void roomOnlyBehindTheWindow() {
        Check.sentence(ORDER);
        PatternWatch x = Check.watch("A+*=5C#@5");
        x.event('A', 0, 0, 0);
        x.event('A', 0, 0, 5);
        x.event('A', 0, 0, 0);
        x.event('A', 0, 5, 0);
        Check.due("three, the same gone on, one new", 7, x.runs());
        for (int n = 0; n < 17; n++) {
            x.event('A', 1 + n % 9, 0, 0);
        }
        Check.due("full, with those of other keys", 24, x.runs());
        x.event('A', 0, 5, 1);
        // The first leaves a place to the second, the third finds none, then the first one's twin of step 1 leaves
        // one to the fourth.
        Check.figures("one is dropped before there is room, and the new one", x, 6, 22, 0, 2, 2, 0, 3, 5);
        Check.due("full", 24, x.runs());
        Check.run("the second stayed", x, 0, 0, 4, 1, 21);
        Check.run("the third stayed", x, 1, 0, 3, 2, 21);
        Check.run("the second one's twin of before", x, 2, 1, 3, 1, 3);
        Check.run("the third one's twin of before", x, 3, 1, 2, 2, 3);
        Check.run("the fourth stayed", x, 4, 0, 2, 3, 21);
        Check.run("the second went on", x, 22, 1, 4, 1, 21);
        Check.run("the fourth went on", x, 23, 1, 2, 3, 21);
    }

    private static void roomOnlyBehindAMatch() {
        Check.sentence(ORDER);
        PatternWatch x = fed("A+A>5A@9", "A".repeat(12));
        x.event('A', 0, 9, 0);
        Check.due("twelve, eleven gone on beside them, one new", 24, x.runs());
        Check.due("those of step 1 match", 12, x.event('A', 0, 9, 0));
        // The first matches, the second only goes on, the third finds the place, nine find none; then eleven match.
        Check.figures("nine are dropped before there is room", x, 0, 14, 12, 9, 0, 0, 3, 9);
        Check.due("nine are dropped before there is room", 15, x.runs());
        Check.run("the second only went on", x, 0, 1, 13, 1, 13);
        Check.run("the third went on", x, 12, 1, 12, 2, 13);
        Check.run("the one behind the matches went on", x, 13, 1, 2, 12, 13);
        Check.run("the new one", x, 14, 0, 1, 13, 13);
    }

    private static void droppedIsNoRun() {
        Check.sentence(DROPPED);
        PatternWatch x = fed("AB@9", "A".repeat(26));
        Check.due("two dropped", 2, x.figure(3));
        Check.due("they match with nothing", 24, Check.feed(x, "B"));
        Check.match("the last match", x, 23, 23, 26);
        Check.due("nor do they come back when there is room", 0, x.runs());
        Check.feed(x, "A");
        Check.due("there is room again", 1, x.runs());
        Check.due("none more was dropped", 2, x.figure(3));
        x.event('C', 0, 0, 10);
        Check.due("nor do they count as gone", 1, x.figure(4));
    }

    private static void orderOfMatches() {
        Check.sentence(MATCHES);
        PatternWatch x = fed("A+*C@9", "AAB");
        Check.due("three", 3, Check.feed(x, "C"));
        // In the list's order: the one that went on beside the first stands behind it, before the second.
        Check.match("first", x, 0, 0, 1, 2, 3);
        Check.match("second", x, 1, 0, 1, 3);
        Check.match("third", x, 2, 1, 2, 3);
    }

    private static void twentyFourMatches() {
        Check.sentence(MATCHES);
        PatternWatch x = fed("A+B@9", "A".repeat(24));
        Check.due("24", 24, Check.feed(x, "B"));
        for (int i = 0; i < 24; i++) {
            int size = Math.min(13, 25 - i);
            Check.due("size of " + i, size, x.size(i));
            Check.due("first of " + i, i, x.at(i, 0));
            Check.due("last but one of " + i, i + size - 2, x.at(i, size - 2));
            Check.due("last of " + i, 24, x.at(i, size - 1));
        }
        PatternWatch twelve = fed("A+B@9", "A".repeat(12));
        Check.feed(twelve, "B");
        Check.match("in order", twelve, 0, 0, 1, 2, 3, 4, 5, 6, 7, 8, 9, 10, 11, 12);
    }
}
