import java.lang.reflect.InvocationTargetException;
import java.lang.reflect.Method;
import java.util.ArrayList;
import java.util.Arrays;
import java.util.Collections;
import java.util.HashMap;
import java.util.List;
import java.util.Map;
import java.util.regex.Matcher;
import java.util.regex.Pattern;

/**
 * A run of calls, each written as "hangs(0, 3)", that can be made again and again on new objects. So one
 * object can be compared with its twin on which a call more, or another one, was made.
 */
final class Run {
    /** A new object. */
    static final Run NEW = new Run(List.of());

    /** Each kind of thing is there, and much can be undone, so that whatever is changed by mistake shows. */
    static final Run LIVED = told("wall 30 8 1;pic 3 4 1 5;pic 2 2 0 3;pic 4 6 2 2;pic 3 4 1 5;"
            + "door 5 6;door 9 11;hole 3 18;hole 9 9;")
            .then("sees(0, 3)", "sees(1, 4)", "hangs(0, 0)", "keep(0)", "hangs(1, 6)", "hangs(2, 12)", "keep(1)",
                    "takes(0)", "lines(9)", "hangs(0, 20)", "fills(1)", "hangs(1, 6)")
            .thenTyped("wall 12 6 2;pic 1 1 1 1;");

    private static final int CALL_LIMIT = 512;
    private static final Map<String, Method> METHODS = methods();
    private static final Map<String, Call> READ = new HashMap<>();
    private static final List<String> QUESTIONS = questions();
    /** What is not asked for but comes to light by these calls: what can be undone, images, THE TEXT. */
    private static final List<List<String>> WAYS = ways();
    /** Ahead of a call that is due to be refused as part of the run. */
    private static final String REFUSED = "refused ";

    private final List<String> steps;

    private Run(List<String> steps) {
        this.steps = steps;
    }

    static Run typed(String text) {
        return NEW.thenTyped(text);
    }

    static Run told(String text) {
        return NEW.thenTold(text);
    }

    /** Calls none of which is due to be refused. */
    Run then(String... calls) {
        List<String> longer = new ArrayList<>(steps);
        longer.addAll(Arrays.asList(calls));
        return new Run(longer);
    }

    Run thenRefused(String call) {
        return then(REFUSED + call);
    }

    Run thenTyped(String text) {
        return then(text.chars().mapToObj(letter -> "type(" + letter + ")").toArray(String[]::new));
    }

    Run thenTold(String text) {
        return thenTyped(text).then("tells()");
    }

    /** Picture 0 makes so many holes, at x = 0, 1, .., and is down again then. */
    Run thenHolesMade(int holes) {
        Run r = this;
        for (int x = 0; x < holes; x++) {
            r = r.then("hangs(0, " + x + ")", "takes(0)");
        }
        return r;
    }

    /** The call's answer, on an object that no other call of a test has changed. */
    void due(String call, int want) {
        dueCallsAtMost(steps.size() + 1);
        int got = answer(made(), call);
        Checks.due(() -> story() + call, got, want);
    }

    /** The answers of one method for what = 0, 1, .. */
    void dueEach(String method, int... wants) {
        for (int what = 0; what < wants.length; what++) {
            due(method.replace("*", String.valueOf(what)), wants[what]);
        }
    }

    /** The call's answer, and that all is behind it as if it had not been made. */
    void dueUnchanged(String call, int want) {
        due(call, want);
        then(want < 0 ? REFUSED + call : call).dueSame(this);
    }

    /** That all can be asked, undone, brought back and told with the same answers, but for some ways to ask. */
    void dueSame(Run other, String... without) {
        for (List<String> way : WAYS) {
            if (way.isEmpty() || !Arrays.asList(without).contains(way.get(0))) {
                dueSameBy(way, other);
            }
        }
    }

    private void dueSameBy(List<String> way, Run other) {
        HungPictures mine = made(), its = other.made();
        List<String> asked = new ArrayList<>(way);
        asked.addAll(QUESTIONS);
        dueCallsAtMost(Math.max(steps.size(), other.steps.size()) + asked.size());
        for (String call : asked) {
            int got = answer(mine, call), want = answer(its, call);
            Checks.due(() -> story() + String.join(", ", way) + " .. " + call, got, want);
        }
    }

    /** What an object answers behind its 512th call is free, so no test may look at it. */
    private static void dueCallsAtMost(int calls) {
        if (calls > CALL_LIMIT) {
            Checks.tellWrong("the test makes " + calls + " calls on one object");
        }
    }

    private HungPictures made() {
        HungPictures h = new HungPictures();
        for (String step : steps) {
            boolean refused = step.startsWith(REFUSED);
            int answer = answer(h, refused ? step.substring(REFUSED.length()) : step);
            if (refused != answer < 0) {
                Checks.tellWrong(story() + "its step " + step + " answered " + answer);
            }
        }
        return h;
    }

    static int answer(HungPictures h, String call) {
        Call read = READ.computeIfAbsent(call, Call::of);
        try {
            return (int) read.method.invoke(h, read.numbers);
        } catch (InvocationTargetException e) {
            Checks.tellWrong(call + " has thrown " + e.getCause());
            return Checks.NO;
        } catch (IllegalAccessException e) {
            throw new IllegalStateException(e);
        }
    }

    private record Call(Method method, Object[] numbers) {
        private static final Pattern FORM = Pattern.compile("(\\w+)\\(([-0-9, ]*)\\)");

        static Call of(String call) {
            Matcher m = FORM.matcher(call);
            if (!m.matches() || !METHODS.containsKey(m.group(1))) {
                throw new IllegalArgumentException(call);
            }
            Object[] numbers = m.group(2).isEmpty() ? new Object[0]
                    : Arrays.stream(m.group(2).split(", ")).map(Integer::valueOf).toArray();
            return new Call(METHODS.get(m.group(1)), numbers);
        }
    }

    private String story() {
        StringBuilder letters = new StringBuilder();
        StringBuilder story = new StringBuilder();
        for (String step : steps) {
            if (step.startsWith("type(")) {
                letters.append((char) Integer.parseInt(step.substring(5, step.length() - 1)));
                continue;
            }
            story.append(quoted(letters)).append(step).append(", ");
            letters.setLength(0);
        }
        return story.append(quoted(letters)).toString();
    }

    private static String quoted(StringBuilder letters) {
        return letters.length() == 0 ? "" : "'" + letters + "', ";
    }

    private static Map<String, Method> methods() {
        Map<String, Method> found = new HashMap<>();
        for (Method m : HungPictures.class.getMethods()) {
            if (m.getDeclaringClass() == HungPictures.class) {
                found.put(m.getName(), m);
            }
        }
        return found;
    }

    private static List<String> questions() {
        List<String> all = new ArrayList<>();
        addQuestions(all, "count(*)", 10);
        for (int p = 0; p < 5; p++) {
            addQuestions(all, "picture(" + p + ", *)", 6);
            addQuestions(all, "places(" + p + ", *)", 4);
        }
        for (int k = 0; k < 16; k++) {
            addQuestions(all, "hole(" + k + ", *)", 3);
        }
        for (int k = 0; k < 3; k++) {
            addQuestions(all, "door(" + k + ", *)", 2);
        }
        addQuestions(all, "moment(*)", 2);
        addQuestions(all, "best(*)", 9);
        addQuestions(all, "which(*)", 2);
        all.add("most()");
        return all;
    }

    private static void addQuestions(List<String> all, String method, int whats) {
        for (int what = 0; what < whats; what++) {
            all.add(method.replace("*", String.valueOf(what)));
        }
    }

    private static List<List<String>> ways() {
        List<List<String>> all = new ArrayList<>();
        for (int undone = 0; undone <= 7; undone++) {
            all.add(Collections.nCopies(undone, "undo()"));
        }
        for (String call : List.of("back(0)", "back(1)", "tells()", "clear()", "forget()")) {
            all.add(List.of(call));
        }
        return all;
    }
}
