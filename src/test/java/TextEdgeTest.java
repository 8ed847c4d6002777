/** The edges of promises 1 to 5 and of the text in "Terms": a test for each sentence that names one. */
public final class TextEdgeTest {
    private static final Class<IllegalArgumentException> ARGUMENT = IllegalArgumentException.class;
    private static final Class<IndexOutOfBoundsException> INDEX = IndexOutOfBoundsException.class;
    private static final Class<IllegalStateException> STATE = IllegalStateException.class;
    private static final String KINDS = "ABCDEF*";
    private static final String TESTS = "<=>";
    private static final String DIGITS = "0123456789";
    // Forty characters, a pattern of seven steps with window 10.
    private static final String FULL = "A+>-11B+>-11C+>-11D+>-11E+>-11F+>-11*@10";
    // Pairs: a beginning of a pattern, and all characters with which some pattern goes on behind it.
    private static final String[] NEXT = {
        "", KINDS,
        "A", KINDS + "!+#@" + TESTS,
        "*", KINDS + "!+#@" + TESTS,
        "A+", KINDS + "!" + TESTS,
        "A<", "-" + DIGITS,
        "A=", "-" + DIGITS,
        "A>", "-" + DIGITS,
        "A+<", "-" + DIGITS,
        "A<-", DIGITS,
        "A<1", DIGITS + KINDS + "!#@",
        "A<-1", DIGITS + KINDS + "!#@",
        "A<12", KINDS + "!#@",
        "A<-12", KINDS + "!#@",
        "A+<1", DIGITS + KINDS + "!",
        "A+<12", KINDS + "!",
        "AB", KINDS + "!+#@" + TESTS,
        "AB+", KINDS + "!" + TESTS,
        "AB<", "-p" + DIGITS,
        "AB=", "-p" + DIGITS,
        "AB>", "-p" + DIGITS,
        "AB<-", DIGITS,
        "AB<p", KINDS + "!#@",
        "AB+<p", KINDS + "!",
        "A!", KINDS,
        "A!B", KINDS + "!" + TESTS,
        "A!*", KINDS + "!" + TESTS,
        "A!B<", "-p" + DIGITS,
        "A!B<p", KINDS + "!",
        "A!B<1", DIGITS + KINDS + "!",
        "A!B<12", KINDS + "!",
        "A!BC", KINDS + "!+#@" + TESTS,
        "A#", "@",
        "A@", DIGITS,
        "A#@", DIGITS,
        "A@1", DIGITS,
        "A@12", DIGITS,
        "A@123", "",
        "A#@123", "",
        "AAAAAA", KINDS + "!+#@" + TESTS,
        "AAAAAA!", KINDS,
        "AAAAAA!B", KINDS + TESTS,
        "AAAAAA!B<p", KINDS,
        "AAAAAAA", KINDS + "+#@" + TESTS,
        "AAAAAAA+", KINDS + TESTS,
        "AAAAAAA<p", KINDS + "#@",
        "AAAAAAA+<p", KINDS,
        "A!A!A!A!A!A!A", KINDS + TESTS,
        "AAAAAAAA", "#@" + TESTS,
        "AAAAAAAA<", "-p" + DIGITS,
        "AAAAAAAA<p", "#@",
        "AAAAAAAA<1", DIGITS + "#@",
        "AAAAAAAA<12", "#@",
        "AAAAAAAA#", "@",
        "A!A!A!A!A!A!AB", "#@" + TESTS,
    };

    public static void main(String[] args) {
        newObjectHasAnEmptyText();
        newObjectHasNoPattern();
        typedBehindOneAnother();
        everyCode();
        refusedCodeChangesNothing();
        fortyCharacters();
        patternOfFortyCharacters();
        wipeOfAnyLength();
        wipeOfNothingElse();
        oneToEightElements();
        whatMayComeNext();
        numbers();
        windows();
        keyedOnce();
        barredNeitherFirstNorLast();
        repeatedNotLast();
        repeatedNotBarred();
        firstWithoutLastValue();
        nothingBetween();
        stepsAreNotBarred();
        loadedFromNowOn();
        nothingOfPatternsBefore();
        loadBeginsAnew();
        loadThatThrows();
        loadThatThrowsWithoutPattern();
        faultFromNoneToAll();
        faultOfLongerPatterns();
        faultIsTheLatest();
        Check.end();
    }

    private static boolean isTypable(int code) {
        return code >= 33 && code <= 126;
    }

    private static void newObjectHasAnEmptyText() {
        Check.sentence("An empty text, no pattern.");
        Check.isNoPattern("", 0);
        PatternWatch x = new PatternWatch();
        Check.typeAll(x, FULL);
        Check.due("there was room for forty, and for no more", false, x.type('0'));
        Check.due("nothing stood before the forty", 7, x.load());
    }

    private static void newObjectHasNoPattern() {
        Check.sentence("An empty text, no pattern.");
        PatternWatch x = new PatternWatch();
        Check.due("fault", -1, x.fault());
        Check.due("runs", 0, x.runs());
        Check.figures("figures", x, 0, 0, 0, 0, 0, 0, 0, 0);
        Check.refused("event", STATE, x, () -> x.event('A', 0, 0, 0));
        Check.refused("size", INDEX, x, () -> x.size(0));
        Check.refused("at", INDEX, x, () -> x.at(0, 0));
        Check.refused("run", INDEX, x, () -> x.run(0, 0));
        Check.refused("figure", ARGUMENT, x, () -> x.figure(8));
        Check.typeAll(x, "A@1");
        Check.refused("a text that is not loaded is no pattern", STATE, x, () -> x.event('A', 0, 0, 0));
        Check.due("nothing of this keeps a load from working", 1, x.load());
    }

    private static void typedBehindOneAnother() {
        Check.sentence("Puts a character at the end of the text: true");
        Check.isPattern("A@123", 1, 123);
        Check.isPattern("A@321", 1, 321);
        PatternWatch x = new PatternWatch();
        Check.due("the first", true, x.type('A'));
        Check.due("one that makes the text no pattern is put there too", true, x.type('~'));
        Check.thrown("load", ARGUMENT, () -> x.load());
        Check.due("it is in the text", 1, x.fault());
    }

    private static void everyCode() {
        Check.sentence("false, changing nothing, when its code is not 33 .. 126");
        for (int code = 0; code <= Character.MAX_VALUE; code++) {
            PatternWatch x = new PatternWatch();
            Check.due("type of code " + code, isTypable(code), x.type((char) code));
        }
    }

    private static void refusedCodeChangesNothing() {
        Check.sentence("false, changing nothing, when its code is not 33 .. 126");
        // Those beside the range, those that the range's ends become in other widths, and the ends of all codes.
        int[] codes = {0, 9, 10, 32, 127, 128, 161, 255, 256, 289, 321, 32768, 65313, 65535};
        for (int code : codes) {
            PatternWatch x = Check.watch("AB@7");
            Check.feed(x, "AAB");
            String before = Check.state(x);
            Check.due("type of code " + code, false, x.type((char) code));
            Check.same("type of code " + code, before, Check.state(x));
            Check.due("the text is as it was", true, x.type('5'));
            Check.due("the text is as it was", 2, x.load());
            Check.due("the text is as it was", 75, x.figure(7));
        }
        Check.isPattern("A!BC@1", 2, 1);
        Check.isNoPattern("A~", 1);
    }

    private static void fortyCharacters() {
        Check.sentence("or 40 are there");
        PatternWatch x = new PatternWatch();
        for (int n = 0; n < 40; n++) {
            Check.due("with " + n + " there", true, x.type(FULL.charAt(n)));
        }
        String before = Check.state(x);
        for (int code = 0; code < 200; code++) {
            Check.due("with forty there, code " + code, false, x.type((char) code));
        }
        Check.same("type with forty there", before, Check.state(x));
        Check.due("the forty are as they were", 7, x.load());
        Check.due("the forty are as they were", 10, x.figure(7));
        Check.due("loaded, they are still there", false, x.type('9'));
        x.wipe();
        Check.due("wiped, they are not", true, x.type('9'));
        PatternWatch refused = new PatternWatch();
        Check.typeAll(refused, "~".repeat(39));
        Check.due("a code that is refused takes no place", false, refused.type(' '));
        Check.due("the fortieth", true, refused.type('~'));
        Check.thrown("load", ARGUMENT, () -> refused.load());
        Check.due("what load refuses is still there", false, refused.type('~'));
    }

    private static void patternOfFortyCharacters() {
        Check.sentence("THE TEXT of a pattern is a list of at most 40 characters.");
        Check.isPattern("A@1", 1, 1);
        Check.isPattern(FULL.substring(0, 39), 7, 1);
        Check.isPattern(FULL, 7, 10);
        PatternWatch x = Check.watch(FULL);
        Check.due("one more digit would make it a longer window", false, x.type('5'));
        x.load();
        Check.due("it is not read", 10, x.figure(7));
        // Of these 41 characters, a pattern if they could be typed, the last one is refused.
        PatternWatch cut = new PatternWatch();
        Check.typeAll(cut, "A+>-11B+>-11C+>-11D+>-11E+>-11F+>-11*>1@");
        Check.due("the forty-first", false, cut.type('5'));
        Check.thrown("load of forty that want one more", ARGUMENT, () -> cut.load());
        Check.due("all forty are a beginning", 40, cut.fault());
    }

    private static void wipeOfAnyLength() {
        Check.sentence("Makes the text empty.");
        for (int length : new int[] {0, 1, 39, 40}) {
            PatternWatch x = new PatternWatch();
            Check.typeAll(x, FULL.substring(0, length));
            x.wipe();
            Check.thrown("load, wiped of " + length, ARGUMENT, () -> x.load());
            Check.due("fault, wiped of " + length, 0, x.fault());
            Check.typeAll(x, FULL);
            Check.due("room for forty, wiped of " + length, false, x.type('0'));
            Check.due("only these forty, wiped of " + length, 7, x.load());
        }
        PatternWatch shorter = new PatternWatch();
        Check.typeAll(shorter, "AB@12");
        shorter.wipe();
        Check.typeAll(shorter, "A");
        Check.thrown("what stood behind is not read", ARGUMENT, () -> shorter.load());
        Check.due("what stood behind is not read", 1, shorter.fault());
    }

    private static void wipeOfNothingElse() {
        Check.sentence("Makes the text empty.");
        PatternWatch x = Check.watch("A+B@9");
        Check.feed(x, "AABA");
        x.type('x');
        Check.thrown("load", ARGUMENT, () -> x.load());
        String before = Check.state(x);
        x.wipe();
        Check.same("wipe", before, Check.state(x));
        x.wipe();
        Check.same("wipe again", before, Check.state(x));
        Check.due("the pattern stands without its text", 1, Check.feed(x, "B"));
    }

    private static void oneToEightElements() {
        Check.sentence("one to eight ELEMENTS");
        Check.isNoPattern("@1", 0);
        Check.isNoPattern("#@1", 0);
        for (int count = 1; count <= 8; count++) {
            Check.isPattern("ABCDEF*A".substring(0, count) + "@1", count, 1);
            Check.isPattern("F".repeat(count) + "#@1", count, 1);
        }
        Check.isNoPattern("ABCDEF*AB@1", 8);
        Check.isNoPattern("ABCDEF*A*", 8);
        Check.isNoPattern("ABCDEF*A!", 8);
        Check.isNoPattern("A".repeat(40), 8);
        // Barred ones count too.
        Check.isPattern("A!B!C!D!E!F!*A@1", 2, 1);
        Check.isNoPattern("A!B!C!D!E!F!*AB@1", 14);
    }

    /** Behind each of these beginnings every character is tried: just those that some pattern has there are taken. */
    private static void whatMayComeNext() {
        Check.sentence("It is a PATTERN if it consists of these parts");
        for (int i = 0; i < NEXT.length; i += 2) {
            String before = NEXT[i];
            for (char c = 33; c <= 126; c++) {
                boolean taken = NEXT[i + 1].indexOf(c) >= 0;
                if (taken && before.indexOf('@') >= 0) {
                    Check.isPattern(before + c, 1, Integer.parseInt((before + c).substring(before.indexOf('@') + 1)));
                } else {
                    Check.isNoPattern(before + c, before.length() + (taken ? 1 : 0));
                }
            }
        }
    }

    private static void numbers() {
        Check.sentence("behind that either a number (perhaps '-', then one or two digits) or 'p'");
        for (char test : TESTS.toCharArray()) {
            Check.isNoPattern("A" + test + "@1", 2);
            Check.isPattern("A" + test + "0@1", 1, 1);
            Check.isPattern("A" + test + "99@1", 1, 1);
            Check.isNoPattern("A" + test + "100@1", 4);
            Check.isNoPattern("A" + test + "-@1", 3);
            Check.isPattern("A" + test + "-0@1", 1, 1);
            Check.isPattern("A" + test + "-99@1", 1, 1);
            Check.isNoPattern("A" + test + "-100@1", 5);
            Check.isNoPattern("A" + test + "--1@1", 3);
            Check.isPattern("AB" + test + "p@1", 2, 1);
            Check.isNoPattern("AB" + test + "pp@1", 4);
            Check.isNoPattern("AB" + test + "-p@1", 4);
            Check.isNoPattern("A" + test + "1" + test + "1@1", 3);
        }
        PatternWatch twoDigits = Check.watch("A=10@1");
        Check.due("both digits count", 0, twoDigits.event('A', 0, 1, 0));
        Check.due("both digits count", 1, twoDigits.event('A', 0, 10, 0));
    }

    private static void windows() {
        Check.sentence("'@' and one to three digits, its WINDOW");
        Check.isNoPattern("A", 1);
        Check.isNoPattern("A@", 2);
        Check.isPattern("A@0", 1, 0);
        Check.isPattern("A@9", 1, 9);
        Check.isPattern("A@00", 1, 0);
        Check.isPattern("A@99", 1, 99);
        Check.isPattern("A@000", 1, 0);
        Check.isPattern("A@001", 1, 1);
        Check.isPattern("A@999", 1, 999);
        Check.isNoPattern("A@0000", 5);
        Check.isNoPattern("A@1000", 5);
        Check.isNoPattern("A@-1", 2);
    }

    private static void keyedOnce() {
        Check.sentence("perhaps '#', then it is KEYED");
        Check.isPattern("A#@5", 1, 5);
        Check.isNoPattern("A##@5", 2);
        Check.isNoPattern("A#5", 2);
        Check.isNoPattern("A@#5", 2);
        Check.isNoPattern("A@5#", 3);
        Check.isNoPattern("#A@5", 0);
    }

    private static void barredNeitherFirstNorLast() {
        Check.sentence("The first and the last element are not barred");
        Check.isNoPattern("!A@1", 0);
        Check.isNoPattern("!AB@1", 0);
        Check.isNoPattern("A!B@1", 3);
        Check.isNoPattern("A!B#@1", 3);
        Check.isNoPattern("A!B!C@1", 5);
        Check.isNoPattern("ABCDEF*!A@1", 7);
        Check.isPattern("A!BC@1", 2, 1);
        Check.isPattern("ABCDEF!*A@1", 7, 1);
    }

    private static void repeatedNotLast() {
        Check.sentence("the last one is not repeated");
        Check.isNoPattern("A+@1", 2);
        Check.isNoPattern("A+<5#@1", 4);
        Check.isNoPattern("AB+@1", 3);
        Check.isNoPattern("ABCDEF*A+@1", 8);
        Check.isPattern("A+B@1", 2, 1);
        Check.isPattern("ABCDEF*+A@1", 8, 1);
    }

    private static void repeatedNotBarred() {
        Check.sentence("perhaps '+', then it is REPEATED (not when it is barred)");
        Check.isNoPattern("A!B+C@1", 3);
        Check.isNoPattern("A!B<1+C@1", 5);
        Check.isNoPattern("A++B@1", 2);
        Check.isNoPattern("A<1+B@1", 3);
    }

    private static void firstWithoutLastValue() {
        Check.sentence("and the first one's condition is not with 'p'");
        Check.isNoPattern("A<p@1", 2);
        Check.isNoPattern("A=pB@1", 2);
        Check.isNoPattern("A+>pB@1", 3);
        Check.isPattern("AB=p@1", 2, 1);
        Check.isPattern("A!B=pC@1", 2, 1);
    }

    private static void nothingBetween() {
        Check.sentence("without anything between them");
        for (char c : ",;.:_ab~".toCharArray()) {
            Check.isNoPattern("A" + c + "B@1", 1);
            Check.isNoPattern("AB<" + c + "1@1", 3);
            Check.isNoPattern("AB<1" + c + "@1", 4);
            Check.isNoPattern("AB#" + c + "@1", 3);
            Check.isNoPattern("AB@1" + c, 4);
            Check.isNoPattern(c + "AB@1", 0);
        }
    }

    private static void stepsAreNotBarred() {
        Check.sentence("The elements that are not barred are the STEPS 0, 1, .. of the pattern.");
        String[] texts = {"A@1", "A!BC@1", "A!BC!DE@1", "A!B!C!D!E!F!AB@1", "AB!C!D!E!F!AB@1", "ABCDEFAB@1"};
        int[] steps = {1, 2, 3, 2, 3, 8};
        for (int i = 0; i < texts.length; i++) {
            Check.isPattern(texts[i], steps[i], 1);
        }
        PatternWatch x = Check.watch("A!BCD@9");
        Check.feed(x, "AC");
        Check.run("C is step 1, though element 2", x, 0, 1, 2, 0, 1);
    }

    private static void loadedFromNowOn() {
        Check.sentence("it is the pattern from now on");
        PatternWatch x = Check.watch("A@1");
        Check.typeAll(x, "2");
        Check.due("what is typed behind is not loaded yet", 1, x.figure(7));
        x.load();
        Check.due("the text was not used up", 12, x.figure(7));
        Check.retype(x, "BC@5");
        Check.due("the old one", 1, Check.feed(x, "A"));
        Check.due("the other one has two steps", 2, x.load());
        Check.due("the old one is none any more", 0, Check.feed(x, "A"));
        Check.due("the new one", 1, Check.feed(x, "BC"));
    }

    /** Whatever was loaded, or was refused half read, before: the plain pattern behind it is plain. */
    private static void nothingOfPatternsBefore() {
        Check.sentence("it is the pattern from now on");
        String[] before = {
            "A+=5*+>p!C=-7D+<pF#@1", "A=5B=pC>pD<pE=pF=pA#@1", "A=5!B>3!C=p!D<2F#@1", "B+B+B+B+B+B+B+B@999",
            "A+=5*+>p!C=-7D+<pF#@1x", "A=5!B>3!C=p!D<2F#", "B+B+B+B+B+B+B+B+", "A+=5!*<",
        };
        for (String first : before) {
            for (String second : before) {
                PatternWatch x = new PatternWatch();
                loadOrNot(x, first);
                loadOrNot(x, second);
                Check.retype(x, "ABCD@7");
                Check.due("steps after " + first + " and " + second, 4, x.load());
                x.event('A', 1, 9, 0);
                x.event('B', 2, -9, 7);
                x.event('C', 3, 0, 0);
                x.event('C', 3, 0, 0);
                Check.run("nothing repeated after " + first + " and " + second, x, 0, 2, 3, 0, 2);
                Check.due("no key, no condition after " + first + " and " + second, 1, x.event('D', 4, 50, 0));
                Check.retype(x, "AB=3C@7");
                x.load();
                x.event('A', 0, 9, 0);
                x.event('B', 0, 3, 0);
                Check.run("a number, not the last value after " + first + " and " + second, x, 0, 1, 2, 0, 1);
            }
        }
    }

    private static void loadOrNot(PatternWatch x, String text) {
        Check.retype(x, text);
        try {
            x.load();
        } catch (IllegalArgumentException e) {
            Check.due("fault of " + text, true, x.fault() > 0);
        }
    }

    private static void loadBeginsAnew() {
        Check.sentence("there are no runs, matches and events, and the time is 0");
        PatternWatch x = Check.watch("A!DA<5B@2");
        x.event('A', 0, 9, 1000);
        x.event('D', 0, 0, 0);
        x.event('A', 0, 9, 0);
        x.event('B', 0, 9, 3);
        for (int n = 0; n < 26; n++) {
            x.event('A', 0, 9, 0);
        }
        x.event('A', 0, 1, 1);
        Check.due("all match", 24, x.event('B', 0, 0, 1));
        x.event('A', 0, 9, 0);
        Check.figures("every figure counted something", x, 1005, 33, 24, 3, 1, 1, 3, 2);
        Check.due("the same text again", 3, x.load());
        Check.due("no runs", 0, x.runs());
        Check.thrown("no run", INDEX, () -> x.run(0, 0));
        Check.thrown("no match", INDEX, () -> x.size(0));
        Check.thrown("no match", INDEX, () -> x.at(0, 0));
        Check.figures("all since the pattern was loaded", x, 0, 0, 0, 0, 0, 0, 3, 2);
        Check.feed(x, "A");
        Check.run("the first event has number 0", x, 0, 0, 1, 0, 0);
        Check.due("the time is 0", 0, x.figure(0));
        PatternWatch matched = Check.watch("A@1");
        Check.feed(matched, "A");
        matched.load();
        Check.thrown("the match of the event before is told no more", INDEX, () -> matched.size(0));
    }

    private static void loadThatThrows() {
        Check.sentence("Illegal argument, changing nothing but fault(): the text is no pattern.");
        // Each is wrong in another place; the last ones only when all of the rest has been read.
        String[] texts = {"", "@1", "!", "B", "B+#@1", "C!D@1", "EF<p", "EF<p#", "EF<p#@", "EF=1!DE+A#@77x", "B@1234"};
        int[] faults = {0, 0, 0, 1, 2, 3, 4, 5, 6, 13, 5};
        for (int i = 0; i < texts.length; i++) {
            PatternWatch x = Check.watch("A+*@9");
            x.event('A', 1, 2, 3);
            x.event('A', 4, 5, 6);
            Check.retype(x, texts[i]);
            String before = Check.standing(x);
            Check.thrown("load of " + texts[i], ARGUMENT, () -> x.load());
            Check.due("fault of " + texts[i], faults[i], x.fault());
            Check.same("load of " + texts[i], before, Check.standing(x));
            Check.thrown("load again of " + texts[i], ARGUMENT, () -> x.load());
            Check.due("the old pattern goes on", 2, x.event('A', 1, 2, 0));
            Check.match("the old pattern goes on", x, 0, 0, 1, 2);
            Check.match("the old pattern goes on", x, 1, 1, 2);
            Check.thrown("the text is as it was: " + texts[i], ARGUMENT, () -> x.load());
            Check.due("the text is as it was: " + texts[i], faults[i], x.fault());
        }
    }

    private static void loadThatThrowsWithoutPattern() {
        Check.sentence("Illegal argument, changing nothing but fault(): the text is no pattern.");
        PatternWatch x = new PatternWatch();
        Check.typeAll(x, "AB#@9x");
        String before = Check.standing(x);
        Check.thrown("load", ARGUMENT, () -> x.load());
        Check.same("load", before, Check.standing(x));
        Check.thrown("there is still no pattern", STATE, () -> x.event('A', 0, 0, 0));
    }

    private static void faultFromNoneToAll() {
        Check.sentence("The length of the longest beginning of the text that is also a beginning of some pattern");
        String text = "A+>-12!B<pC#@12";
        for (int length = 0; length < 14; length++) {
            // The whole of it is a beginning; with one more that fits nowhere it is still the longest.
            Check.isNoPattern(text.substring(0, length), length);
            Check.isNoPattern(text.substring(0, length) + "~", length);
            Check.isNoPattern(text.substring(0, length) + "~" + text.substring(length), length);
        }
        Check.isPattern(text, 2, 12);
        Check.isNoPattern("~".repeat(40), 0);
        Check.isNoPattern("A@1" + "0".repeat(37), 5);
    }

    private static void faultOfLongerPatterns() {
        Check.sentence("(of any length)");
        Check.isPattern("A+>-11B+>-11C+>-11D+>-11E+>-11F+>-11*@10", 7, 10);
        Check.isNoPattern("A+>-11B+>-11C+>-11D+>-11E+>-11F+>-11A+>-", 40);
        Check.isNoPattern("A+>-11B+>-11C+>-11D+>-11E+>-11F+>-11*#@", 39);
        Check.isNoPattern("A+>-11B+>-11C+>-11D+>-11E+>-11F+>-11A*#@", 40);
        Check.isNoPattern("A+>-11B+>-11C+>-11D+>-11E+>-11F+>-11*+@1", 38);
        Check.isNoPattern("A+>-11B+>-11C+>-11D+>-11E+>-11F+>-11!A+1", 38);
        Check.isNoPattern("A+>-11B+>-11C+>-11D+>-11E+>-11F+>-11A>1~", 39);
    }

    private static void faultIsTheLatest() {
        Check.sentence("as the latest load() that threw found it; -1 when none threw since the beginning or the"
            + " latest one that did not");
        PatternWatch x = new PatternWatch();
        Check.due("since the beginning", -1, x.fault());
        Check.typeAll(x, "AB!");
        Check.due("none was loaded", -1, x.fault());
        Check.thrown("load", ARGUMENT, () -> x.load());
        Check.due("it threw", 3, x.fault());
        Check.due("asked again", 3, x.fault());
        Check.typeAll(x, "CD@1");
        Check.due("typed", 3, x.fault());
        x.load();
        Check.due("it did not throw", -1, x.fault());
        Check.typeAll(x, "2345");
        Check.due("typed", -1, x.fault());
        Check.thrown("load", ARGUMENT, () -> x.load());
        Check.due("the latest", 9, x.fault());
        x.wipe();
        Check.due("wiped", 9, x.fault());
        Check.thrown("event", ARGUMENT, () -> x.event('A', 10, 0, 0));
        Check.feed(x, "A");
        Check.due("an event", 9, x.fault());
        Check.thrown("load", ARGUMENT, () -> x.load());
        Check.due("the latest of two that threw", 0, x.fault());
        Check.typeAll(x, "A@1");
        x.load();
        Check.due("it did not throw", -1, x.fault());
        x.load();
        Check.due("nor did this one", -1, x.fault());
    }
}
