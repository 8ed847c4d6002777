import java.util.ArrayList;
import java.util.List;
import java.util.regex.Matcher;
import java.util.regex.Pattern;

/** The document told a second time, without thought for speed or room, to compare the program with. */
final class Model {
    private static final String NUMBER = "[<=>]-?[0-9]{1,2}";
    private static final String CONDITION = "(?:" + NUMBER + "|[<=>]p)";
    private static final String FIRST = "[A-F*]\\+?(?:" + NUMBER + ")?";
    private static final String MIDDLE = "(?:![A-F*]|[A-F*]\\+?)" + CONDITION + "?";
    private static final String LAST = "[A-F*]" + CONDITION + "?";
    private static final String ONLY = "[A-F*](?:" + NUMBER + ")?";
    private static final Pattern WHOLE = Pattern.compile(
        "(?:" + ONLY + "|" + FIRST + "(?:" + MIDDLE + "){0,6}" + LAST + ")#?@[0-9]{1,3}");
    private static final Pattern ELEMENT = Pattern.compile("(!?)([A-F*])(\\+?)(?:([<=>])(p|-?[0-9]+))?");
    // Behind each beginning of a pattern one of these makes it whole.
    private static final String[] ENDS = {"", "0", "@0", "0@0", "A@0", "0A@0", "AA@0"};

    record Event(int number, char kind, int key, int value, int time) {
    }

    record Element(boolean barred, char kind, boolean repeated, String test, String bound) {
        boolean fits(Event e, boolean keyed, List<Event> run) {
            if (kind != '*' && kind != e.kind) {
                return false;
            }
            if (keyed && !run.isEmpty() && run.get(0).key != e.key) {
                return false;
            }
            if (test == null) {
                return true;
            }
            int limit = bound.equals("p") ? run.get(run.size() - 1).value : Integer.parseInt(bound);
            return Integer.compare(e.value, limit) == "<=>".indexOf(test) - 1;
        }
    }

    /** A run never changes: one that takes an event is another one. */
    record Run(int step, List<Event> events) {
        Run with(Event e, int forStep) {
            List<Event> more = new ArrayList<>(events);
            more.add(e);
            return new Run(forStep, more);
        }
    }

    String text = "";
    int fault = -1;
    boolean loaded = false;
    private List<Element> elements = List.of();
    private List<Integer> steps = List.of();
    private boolean keyed;
    int[] figures = new int[8];
    List<Run> runs = new ArrayList<>();
    List<Run> matches = new ArrayList<>();

    static boolean isPattern(String text) {
        return WHOLE.matcher(text).matches();
    }

    static boolean isBeginning(String text) {
        for (String end : ENDS) {
            if (isPattern(text + end)) {
                return true;
            }
        }
        return text.isEmpty();
    }

    boolean type(char c) {
        if (c <= ' ' || c > '~' || text.length() == 40) {
            return false;
        }
        text += c;
        return true;
    }

    /** The number of steps, or -1 where the program has to throw. */
    int load() {
        if (!isPattern(text)) {
            fault = text.length();
            while (!isBeginning(text.substring(0, fault))) {
                fault--;
            }
            return -1;
        }
        fault = -1;
        loaded = true;
        elements = new ArrayList<>();
        steps = new ArrayList<>();
        int end = text.indexOf('@');
        keyed = text.charAt(end - 1) == '#';
        Matcher m = ELEMENT.matcher(text.substring(0, end));
        while (m.find()) {
            boolean barred = !m.group(1).isEmpty();
            if (!barred) {
                steps.add(elements.size());
            }
            elements.add(new Element(barred, m.group(2).charAt(0), !m.group(3).isEmpty(), m.group(4), m.group(5)));
        }
        runs = new ArrayList<>();
        matches = new ArrayList<>();
        figures = new int[8];
        figures[6] = steps.size();
        figures[7] = Integer.parseInt(text.substring(end + 1));
        return steps.size();
    }

    int event(char kind, int key, int value, int passed) {
        figures[0] += passed;
        Event e = new Event(figures[1], kind, key, value, figures[0]);
        figures[1]++;
        matches = new ArrayList<>();
        for (Run run : new ArrayList<>(runs)) {
            lookAt(run, e);
        }
        if (elements.get(0).fits(e, false, List.of())) {
            put(new Run(0, List.of()).with(e, 0));
        }
        figures[2] += matches.size();
        return matches.size();
    }

    private void lookAt(Run run, Event e) {
        if (e.time > run.events.get(0).time + figures[7]) {
            figures[4]++;
            runs.remove(placeOf(run));
            return;
        }
        int here = steps.get(run.step);
        int next = steps.get(run.step + 1);
        for (Element barred : elements.subList(here + 1, next)) {
            if (barred.fits(e, keyed, run.events)) {
                figures[5]++;
                runs.remove(placeOf(run));
                return;
            }
        }
        boolean goesOn = elements.get(next).fits(e, keyed, run.events);
        boolean stays = elements.get(here).repeated && run.events.size() < 12
            && elements.get(here).fits(e, keyed, run.events);
        Run further = run.with(e, run.step + 1);
        if (stays) {
            runs.set(placeOf(run), run.with(e, run.step));
            if (goesOn) {
                put(further);
            }
        } else if (goesOn && further.step == steps.size() - 1) {
            runs.remove(placeOf(run));
            matches.add(further);
        } else if (goesOn) {
            runs.set(placeOf(run), further);
        }
    }

    private int placeOf(Run run) {
        for (int i = 0; i < runs.size(); i++) {
            if (runs.get(i) == run) {
                return i;
            }
        }
        throw new IllegalStateException("a run that is not in the list");
    }

    private void put(Run run) {
        if (run.step == steps.size() - 1) {
            matches.add(run);
        } else if (runs.size() == 24) {
            figures[3]++;
        } else {
            runs.add(run);
        }
    }
}
