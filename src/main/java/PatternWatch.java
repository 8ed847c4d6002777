/** Watches events for the pattern that was loaded last; ../shared/DOC.md says what each call promises. */
public final class PatternWatch {
    private static final int MOST_CHARACTERS = 40;
    private static final int MOST_ELEMENTS = 8;
    private static final int MOST_RUNS = 24;
    private static final int MOST_BY_STAYING = 12;
    // Only staying is limited: a run that is full may still go on once for each step behind its first.
    private static final int MOST_TAKEN = MOST_BY_STAYING + MOST_ELEMENTS - 1;
    private static final char ANY_KIND = '*';
    private static final char NO_TEST = ' ';

    private final Reader reader;
    private final RunList list;
    private final RunList matches;
    private final Event now;
    // A pattern without steps stands for none.
    private Pattern pattern;
    // A text is read into this one, so that a load that throws leaves the pattern as it was.
    private Pattern draft;
    private int faultPlace;
    private int eventCount;
    private int matchCount;
    private int droppedCount;
    private int lateCount;
    private int barredCount;

    public PatternWatch() {
        reader = new Reader();
        list = new RunList();
        matches = new RunList();
        now = new Event();
        pattern = new Pattern();
        draft = new Pattern();
        faultPlace = -1;
    }

    public boolean type(char c) {
        return reader.put(c);
    }

    public void wipe() {
        reader.empty();
    }

    public int load() throws IllegalArgumentException {
        if (!reader.readInto(draft)) {
            faultPlace = reader.place;
            throw new IllegalArgumentException("the text is no pattern");
        }
        Pattern before = pattern;
        pattern = draft;
        draft = before;
        faultPlace = -1;
        startAnew();
        return pattern.stepCount;
    }

    public int fault() {
        return faultPlace;
    }

    public int event(char kind, int key, int value, int passed)
            throws IllegalStateException, IllegalArgumentException {
        if (pattern.stepCount == 0) {
            throw new IllegalStateException("no pattern is loaded");
        }
        if (!isLetter(kind) || !isWithin(key, 0, 9) || !isWithin(value, -100, 100) || !isWithin(passed, 0, 1000)) {
            throw new IllegalArgumentException("no such event");
        }
        now.number = eventCount;
        now.kind = kind;
        now.key = key;
        now.value = value;
        now.time += passed;
        eventCount++;
        matches.clear();
        lookAtRuns();
        beginRun();
        matchCount += matches.count;
        return matches.count;
    }

    public int size(int i) throws IndexOutOfBoundsException {
        if (!matches.has(i)) {
            throw new IndexOutOfBoundsException("no such match");
        }
        return matches.rows[i].count;
    }

    public int at(int i, int k) throws IndexOutOfBoundsException {
        if (!matches.has(i) || !isWithin(k, 0, matches.rows[i].count - 1)) {
            throw new IndexOutOfBoundsException("no such match, or no such event of it");
        }
        return matches.rows[i].taken[k];
    }

    public int runs() {
        return list.count;
    }

    public int run(int place, int what) throws IndexOutOfBoundsException, IllegalArgumentException {
        if (!list.has(place)) {
            throw new IndexOutOfBoundsException("no such run");
        }
        Run run = list.rows[place];
        switch (what) {
            case 0:
                return run.step;
            case 1:
                return run.count;
            case 2:
                return run.firstNumber;
            case 3:
                return run.lastNumber;
            default:
                throw new IllegalArgumentException("what is not 0 .. 3");
        }
    }

    public int figure(int k) throws IllegalArgumentException {
        switch (k) {
            case 0:
                return now.time;
            case 1:
                return eventCount;
            case 2:
                return matchCount;
            case 3:
                return droppedCount;
            case 4:
                return lateCount;
            case 5:
                return barredCount;
            case 6:
                return pattern.stepCount;
            case 7:
                return pattern.window;
            default:
                throw new IllegalArgumentException("k is not 0 .. 7");
        }
    }

    private void startAnew() {
        list.clear();
        matches.clear();
        now.time = 0;
        eventCount = 0;
        matchCount = 0;
        droppedCount = 0;
        lateCount = 0;
        barredCount = 0;
    }

    private void lookAtRuns() {
        // Runs that this event puts at the end are not looked at, so those from before are counted.
        int before = list.count;
        int place = 0;
        for (int looked = 0; looked < before; looked++) {
            if (staysInList(list.rows[place])) {
                place++;
            } else {
                list.remove(place);
            }
        }
    }

    /** Does with one run what the event asks; false if the run has to leave its place. */
    private boolean staysInList(Run run) {
        if (now.time - run.firstTime > pattern.window) {
            lateCount++;
            return false;
        }
        if (isBarred(run)) {
            barredCount++;
            return false;
        }
        int nextStep = run.step + 1;
        boolean goesOn = fits(pattern.stepElement(nextStep), run);
        boolean stays = mayStay(run);
        boolean completes = goesOn && pattern.isLastStep(nextStep);
        if (completes || goesOn && stays) {
            // Before the run itself takes the event: the one that goes on is the run as it was.
            goOnApart(run, nextStep);
        }
        if (stays) {
            run.take(now, run.step);
        } else if (goesOn && !completes) {
            run.take(now, nextStep);
        }
        return stays || !completes;
    }

    private boolean isBarred(Run run) {
        int end = pattern.stepPlace(run.step + 1);
        for (int place = pattern.stepPlace(run.step) + 1; place < end; place++) {
            if (fits(pattern.elements[place], run)) {
                return true;
            }
        }
        return false;
    }

    private boolean mayStay(Run run) {
        Element here = pattern.stepElement(run.step);
        return here.repeated && run.count < MOST_BY_STAYING && fits(here, run);
    }

    private boolean fits(Element element, Run run) {
        return element.admits(now, run.lastValue) && (!pattern.keyed || now.key == run.firstKey);
    }

    private void goOnApart(Run run, int nextStep) {
        Run row = rowForStep(nextStep);
        if (row != null) {
            row.copyFrom(run);
            row.take(now, nextStep);
        }
    }

    private void beginRun() {
        // No run is there yet, but the first element's condition never asks for a last value.
        if (pattern.stepElement(0).admits(now, 0)) {
            Run row = rowForStep(0);
            if (row != null) {
                row.begin(now);
            }
        }
    }

    /** The row for a run that takes the event for this step: a match's, or one at the list's end; null if dropped. */
    private Run rowForStep(int step) {
        if (pattern.isLastStep(step)) {
            return matches.add();
        }
        Run row = list.add();
        if (row == null) {
            droppedCount++;
        }
        return row;
    }

    private static boolean isWithin(int number, int least, int most) {
        return number >= least && number <= most;
    }

    private static boolean isLetter(char c) {
        return c >= 'A' && c <= 'F';
    }

    private static final class Event {
        private int number;
        private char kind;
        private int key;
        private int value;
        private int time;
    }

    private static final class Element {
        private boolean barred;
        private char kind;
        private boolean repeated;
        private char test;
        private boolean withLast;
        private int bound;

        private void clear() {
            barred = false;
            kind = ANY_KIND;
            repeated = false;
            test = NO_TEST;
            withLast = false;
            bound = 0;
        }

        private boolean admits(Event event, int lastValue) {
            if (kind != ANY_KIND && kind != event.kind) {
                return false;
            }
            int limit = withLast ? lastValue : bound;
            switch ((int) test) {
                case '<':
                    return event.value < limit;
                case '=':
                    return event.value == limit;
                case '>':
                    return event.value > limit;
                default:
                    return true;
            }
        }
    }

    private static final class Pattern {
        private final Element[] elements;
        private final int[] stepPlaces;
        private int count;
        private int stepCount;
        private boolean keyed;
        private int window;

        private Pattern() {
            elements = new Element[MOST_ELEMENTS];
            for (int i = 0; i < MOST_ELEMENTS; i++) {
                elements[i] = new Element();
            }
            stepPlaces = new int[MOST_ELEMENTS];
        }

        private void clear() {
            count = 0;
            stepCount = 0;
            keyed = false;
            window = 0;
        }

        /** Counts the element that was read behind those before. */
        private void countElement() {
            if (count < MOST_ELEMENTS) {
                if (!elements[count].barred) {
                    stepPlaces[stepCount] = count;
                    stepCount++;
                }
                count++;
            }
        }

        private boolean mayEnd() {
            return count > 0 && !elements[count - 1].barred && !elements[count - 1].repeated;
        }

        private boolean isLastStep(int step) {
            return step == stepCount - 1;
        }

        private int stepPlace(int step) {
            return isWithin(step, 0, stepCount - 1) ? stepPlaces[step] : 0;
        }

        private Element stepElement(int step) {
            return elements[stepPlace(step)];
        }
    }

    private static final class Run {
        private final int[] taken;
        private int count;
        private int step;
        private int firstNumber;
        private int firstKey;
        private int firstTime;
        private int lastNumber;
        private int lastValue;

        private Run() {
            taken = new int[MOST_TAKEN];
        }

        private void begin(Event event) {
            count = 0;
            firstNumber = event.number;
            firstKey = event.key;
            firstTime = event.time;
            take(event, 0);
        }

        private void take(Event event, int forStep) {
            if (count < MOST_TAKEN) {
                taken[count] = event.number;
                count++;
            }
            step = forStep;
            lastNumber = event.number;
            lastValue = event.value;
        }

        private void copyFrom(Run other) {
            System.arraycopy(other.taken, 0, taken, 0, MOST_TAKEN);
            count = other.count;
            step = other.step;
            firstNumber = other.firstNumber;
            firstKey = other.firstKey;
            firstTime = other.firstTime;
            lastNumber = other.lastNumber;
            lastValue = other.lastValue;
        }
    }

    /** Rows that are made once: those before count are in the list, the others wait to be used again. */
    private static final class RunList {
        private final Run[] rows;
        private int count;

        private RunList() {
            rows = new Run[MOST_RUNS];
            for (int i = 0; i < MOST_RUNS; i++) {
                rows[i] = new Run();
            }
        }

        private void clear() {
            count = 0;
        }

        private boolean has(int place) {
            return isWithin(place, 0, count - 1);
        }

        /** The row that is now the last one; null if the list is full. */
        private Run add() {
            if (count >= MOST_RUNS) {
                return null;
            }
            count++;
            return rows[count - 1];
        }

        private void remove(int place) {
            if (!has(place)) {
                return;
            }
            Run gone = rows[place];
            for (int i = place + 1; i < count; i++) {
                rows[i - 1] = rows[i];
            }
            count--;
            rows[count] = gone;
        }
    }

    /** Holds the text and reads it; a character is passed over only if some pattern goes on with it there. */
    private static final class Reader {
        private static final char END = ' ';

        private final char[] text;
        private int length;
        private int place;

        private Reader() {
            text = new char[MOST_CHARACTERS];
        }

        private boolean put(char c) {
            if (c < 33 || c > 126 || length >= MOST_CHARACTERS) {
                return false;
            }
            text[length] = c;
            length++;
            return true;
        }

        private void empty() {
            length = 0;
        }

        /** Whether the text is a pattern; if not, place tells how much of it is a beginning of one. */
        private boolean readInto(Pattern pattern) {
            place = 0;
            pattern.clear();
            for (int n = 0; n < MOST_ELEMENTS && isElementAhead(); n++) {
                if (!readElement(pattern.elements[n], n)) {
                    return false;
                }
                pattern.countElement();
            }
            return pattern.mayEnd() && readEnd(pattern) && place == length;
        }

        private boolean readElement(Element element, int n) {
            boolean mustBeLast = n == MOST_ELEMENTS - 1;
            element.clear();
            if (ahead() == '!') {
                if (n == 0 || mustBeLast) {
                    return false;
                }
                element.barred = true;
                place++;
            }
            if (!isKindAhead()) {
                return false;
            }
            element.kind = ahead();
            place++;
            if (ahead() == '+') {
                if (element.barred || mustBeLast) {
                    return false;
                }
                element.repeated = true;
                place++;
            }
            return !isTestAhead() || readCondition(element, n);
        }

        private boolean readCondition(Element element, int n) {
            element.test = ahead();
            place++;
            if (n > 0 && passes('p')) {
                element.withLast = true;
                return true;
            }
            boolean negative = passes('-');
            int number = readDigits(2);
            element.bound = negative ? -number : number;
            return number >= 0;
        }

        private boolean readEnd(Pattern pattern) {
            pattern.keyed = passes('#');
            if (!passes('@')) {
                return false;
            }
            pattern.window = readDigits(3);
            return pattern.window >= 0;
        }

        /** The number that at least one digit and at most so many make; -1 if there is none. */
        private int readDigits(int most) {
            int number = -1;
            for (int n = 0; n < most && isDigitAhead(); n++) {
                int digit = ahead() - '0';
                number = n == 0 ? digit : 10 * number + digit;
                place++;
            }
            return number;
        }

        private boolean passes(char c) {
            if (ahead() != c) {
                return false;
            }
            place++;
            return true;
        }

        private boolean isElementAhead() {
            return ahead() == '!' || isKindAhead();
        }

        private boolean isKindAhead() {
            return ahead() == ANY_KIND || isLetter(ahead());
        }

        private boolean isTestAhead() {
            return ahead() == '<' || ahead() == '=' || ahead() == '>';
        }

        private boolean isDigitAhead() {
            return ahead() >= '0' && ahead() <= '9';
        }

        // A blank can never be typed, so it can mark the end of the text.
        private char ahead() {
            return place < length ? text[place] : END;
        }
    }
}
