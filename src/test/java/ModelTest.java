import java.util.Random;

/** Long runs of calls, always the same ones, in which the program and the model have to answer alike. */
public final class ModelTest {
    private static final String SIGNS = "ABCDEF*!+<=>-0123456789p#@";
    private final Random random;
    private final PatternWatch x = new PatternWatch();
    private final Model model = new Model();
    // Nothing is promised of an object behind its 512th call, so nothing is asked of it there.
    private int callsLeft = 512;
    private int kinds = 6;
    private int keys = 10;
    private int values = 100;
    private int longest = 1000;

    private ModelTest(long seed) {
        random = new Random(seed);
    }

    public static void main(String[] args) {
        int[] reached = new int[8];
        for (int seed = 0; seed < 30000; seed++) {
            ModelTest test = new ModelTest(seed);
            for (int part = 0; part < 3; part++) {
                test.loadSome();
                test.events(20 + test.random.nextInt(60));
                for (int k = 0; k < 8; k++) {
                    reached[k] += test.model.figures[k];
                }
            }
        }
        for (int k = 1; k < 6; k++) {
            Check.due("something is counted in figure " + k, true, reached[k] > 1000);
        }
        for (int seed = 0; seed < 20000; seed++) {
            new ModelTest(seed).loadSpoiled();
        }
        Check.end();
    }

    /** Whether so many calls may still be made; then they count as made. */
    private boolean mayCall(int calls) {
        if (calls > callsLeft) {
            return false;
        }
        callsLeft -= calls;
        return true;
    }

    private boolean oneIn(int n) {
        return random.nextInt(n) == 0;
    }

    private char oneOf(String signs) {
        return signs.charAt(random.nextInt(signs.length()));
    }

    private String condition(boolean first) {
        if (!oneIn(3)) {
            return "";
        }
        String test = String.valueOf(oneOf("<=>"));
        if (!first && oneIn(2)) {
            return test + "p";
        }
        return test + (oneIn(3) ? "-" : "") + random.nextInt(oneIn(2) ? 5 : 100);
    }

    private String pattern() {
        int barredOften = 2 + random.nextInt(5);
        int repeatedOften = 1 + random.nextInt(3);
        int count = 1 + random.nextInt(8);
        StringBuilder s = new StringBuilder();
        for (int n = 0; n < count; n++) {
            boolean last = n == count - 1;
            boolean barred = n > 0 && !last && oneIn(barredOften);
            s.append(barred ? "!" : "").append(oneOf("ABC*ABCDEF"));
            s.append(!barred && !last && oneIn(repeatedOften) ? "+" : "").append(condition(n == 0));
        }
        return s.append(oneIn(4) ? "#" : "").append('@').append(oneIn(3) ? random.nextInt(1000) : random.nextInt(30))
            .toString();
    }

    private void typeAll(String text) {
        x.wipe();
        model.text = "";
        for (char c : text.toCharArray()) {
            Check.due("type in " + text, model.type(c), x.type(c));
        }
    }

    private void compareLoad() {
        int want = model.load();
        if (want < 0) {
            Check.thrown("load of " + model.text, IllegalArgumentException.class, () -> x.load());
        } else {
            Check.due("load of " + model.text, want, x.load());
        }
        Check.due("fault of " + model.text, model.fault, x.fault());
    }

    private void loadSome() {
        String text = pattern();
        while (text.length() > 40) {
            text = pattern();
        }
        if (mayCall(text.length() + 3)) {
            typeAll(text);
            compareLoad();
        }
        kinds = 1 + random.nextInt(6);
        keys = oneIn(2) ? 1 : 1 + random.nextInt(10);
        values = oneIn(2) ? random.nextInt(6) : random.nextInt(101);
        longest = oneIn(4) ? 1000 : random.nextInt(6);
    }

    private void loadSpoiled() {
        StringBuilder text = new StringBuilder(pattern());
        for (int n = random.nextInt(3); n >= 0; n--) {
            int at = random.nextInt(text.length());
            switch (random.nextInt(4)) {
                case 0 -> text.setCharAt(at, oneOf(SIGNS));
                case 1 -> text.insert(at, oneOf(SIGNS));
                case 2 -> text.append(oneOf(SIGNS));
                default -> text.setLength(at + 1);
            }
        }
        typeAll(text.toString());
        compareLoad();
    }

    private void events(int count) {
        for (int n = 0; n < count && mayCall(1); n++) {
            char kind = (char) ('A' + random.nextInt(kinds));
            int key = random.nextInt(keys);
            int value = random.nextInt(2 * values + 1) - values;
            int passed = oneIn(3) ? random.nextInt(longest + 1) : 0;
            String what = model.text + ": event " + n;
            Check.due(what, model.event(kind, key, value, passed), x.event(kind, key, value, passed));
            if (oneIn(5) && mayCall(callsToCompare())) {
                compare(what);
            }
        }
    }

    private int callsToCompare() {
        int calls = 8 + 1 + 1 + 4 * model.runs.size() + 2;
        for (Model.Run match : model.matches) {
            calls += 1 + match.events().size();
        }
        return calls;
    }

    private void compare(String what) {
        Check.figures(what, x, model.figures);
        Check.due(what + ": runs", model.runs.size(), x.runs());
        int runs = Math.min(model.runs.size(), x.runs());
        for (int i = 0; i < runs; i++) {
            Model.Run run = model.runs.get(i);
            int last = run.events().size() - 1;
            Check.run(what, x, i, run.step(), last + 1, run.events().get(0).number(), run.events().get(last).number());
        }
        for (int i = 0; i < model.matches.size(); i++) {
            Check.match(what, x, i, model.matches.get(i).events().stream().mapToInt(Model.Event::number).toArray());
        }
        Check.thrown(what + ": size", IndexOutOfBoundsException.class, () -> x.size(model.matches.size()));
        Check.thrown(what + ": run", IndexOutOfBoundsException.class, () -> x.run(model.runs.size(), 0));
    }
}
