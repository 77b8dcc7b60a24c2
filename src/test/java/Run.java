import java.lang.reflect.InvocationTargetException;
import java.lang.reflect.Method;
import java.util.ArrayList;
import java.util.HashMap;
import java.util.List;
import java.util.Map;
import java.util.Set;

/**
 * A run of calls on a new object, with the answers that are due. Every call is written down, so that
 * the run can be made again: what is so behind it must be so without its refused calls and questions.
 */
final class Run {
    static final int NONE = -1, UNKNOWN = -1000000001, OUTSIDE = -1000000002, NOT = -1000000003, FULL = -1000000004;
    /** Nothing is promised about an object behind these. */
    static final int MOST_CALLS = 512;

    private static final Map<String, Method> FACE = face();
    private static final Set<String> QUESTIONS = Set.of(
        "fault", "told", "plinth", "statue", "walker", "standing", "goesDown", "change", "power", "mostHave", "places",
        "swaps", "close", "likings", "ladder", "judge");

    private record Call(String name, int[] numbers, int answer) {
        boolean changesNothing() {
            return QUESTIONS.contains(name) || answer <= UNKNOWN && answer >= FULL;
        }
    }

    private final StatueVotes object = new StatueVotes();
    private final List<Call> calls = new ArrayList<>();

    private static Map<String, Method> face() {
        Map<String, Method> all = new HashMap<>();
        for (Method m : StatueVotes.class.getMethods()) {
            if (m.getDeclaringClass() == StatueVotes.class) all.put(m.getName(), m);
        }
        return all;
    }

    /** A run that may go on as it likes; it is held behind the sentence that it belongs to. */
    static Run anew() {
        Run run = new Run();
        Sentences.keep(run);
        return run;
    }

    static Run of(String text) {
        Run run = anew().feed(text);
        int plinths = run.make("capital");
        if (plinths < 0) Sentences.wrong(run + " is told with a fault");
        return run;
    }

    Run feed(String text) {
        for (int i = 0; i < text.length(); i++) make("feed", text.charAt(i));
        return this;
    }

    int make(String name, int... numbers) {
        Object[] given = new Object[numbers.length];
        for (int i = 0; i < numbers.length; i++) given[i] = numbers[i];
        if (calls.size() >= MOST_CALLS) Sentences.wrong(this + " has more calls than an object is used for");
        try {
            int answer = (Integer) FACE.get(name).invoke(object, given);
            calls.add(new Call(name, numbers, answer));
            return answer;
        } catch (IllegalAccessException | InvocationTargetException e) {
            throw new IllegalStateException(this + " then " + name + " threw", e);
        }
    }

    Run due(int want, String name, int... numbers) {
        int got = make(name, numbers);
        Sentences.asked();
        if (got != want) Sentences.wrong(this + ": answered " + got + ", due is " + want);
        return this;
    }

    /** The same answer is due for each of these numbers, in the place that is marked by ANY. */
    static final int ANY = 777777777;

    Run dueForEach(int want, int[] each, String name, int... numbers) {
        for (int one : each) {
            int[] given = numbers.clone();
            for (int i = 0; i < given.length; i++) if (given[i] == ANY) given[i] = one;
            due(want, name, given);
        }
        return this;
    }

    int size() {
        return calls.size();
    }

    private Run again(boolean all) {
        Run run = new Run();
        for (Call c : calls) if (all || !c.changesNothing()) run.make(c.name, c.numbers);
        return run;
    }

    /** What is refused, and what is only asked, leaves everything as it was: seen by all that can be seen. */
    void hold() {
        for (String way : new String[] {"", "capital", "goBack 0", "goBack 1", "undo"}) {
            List<Integer> with = again(true).seen(way);
            List<Integer> without = again(false).seen(way);
            int many = Math.min(with.size(), without.size());
            Sentences.asked();
            if (!with.subList(0, many).equals(without.subList(0, many))) {
                Sentences.wrong(this + ": what was refused or asked changed something (seen by '" + way + "')\n  " + with + "\n  " + without);
            }
        }
    }

    private List<Integer> seen(String way) {
        List<Integer> all = new ArrayList<>();
        if (way.startsWith("capital")) see(all, "capital");
        if (way.startsWith("goBack")) see(all, "goBack", way.charAt(7) - '0');
        for (int i = 0; way.equals("undo") && i < 17; i++) {
            see(all, "undo");
            see(all, "told", 5);
            see(all, "told", 6);
        }
        for (int what = 0; what < 14; what++) see(all, "told", what);
        see(all, "fault");
        for (int p = 0; p < 5; p++) for (int what = 0; what < 4; what++) see(all, "plinth", p, what);
        for (int s = 0; s < 6; s++) for (int what = 0; what < 7; what++) see(all, "statue", s, what);
        for (int w = 0; w < 7; w++) for (int what = 0; what < 3; what++) see(all, "walker", w, what);
        for (String name : new String[] {"judge", "ladder"}) see(all, name);
        for (int what = 0; what < 2; what++) see(all, "likings", what);
        see(all, "seed", 0);
        see(all, "tear");
        return all;
    }

    private void see(List<Integer> all, String name, int... numbers) {
        if (calls.size() < MOST_CALLS) all.add(make(name, numbers));
    }

    @Override
    public String toString() {
        StringBuilder t = new StringBuilder();
        StringBuilder fed = new StringBuilder();
        for (Call c : calls) {
            if (c.name.equals("feed") && c.numbers[0] >= 32 && c.numbers[0] < 127) {
                fed.append((char) c.numbers[0]);
                continue;
            }
            if (fed.length() > 0) t.append("'").append(fed).append("' ");
            fed.setLength(0);
            t.append(c.name).append('(');
            for (int i = 0; i < c.numbers.length; i++) t.append(i > 0 ? ", " : "").append(c.numbers[i]);
            t.append(") ");
        }
        return t.append(fed).toString();
    }
}
