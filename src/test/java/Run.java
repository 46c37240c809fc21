import java.lang.reflect.InvocationTargetException;
import java.lang.reflect.Method;
import java.util.ArrayList;
import java.util.Arrays;
import java.util.HashMap;
import java.util.List;
import java.util.Map;

/**
 * A run of calls on a new object, each a text like "wind(0, 50)". Since the calls are kept, the
 * run can be made anew: so an object can be asked for all that it tells, though the document
 * promises 512 calls only, and held against one that had one call more.
 */
final class Run {
    private static final int MOST_CALLS = 512;
    private static final int INVALID = CranePermits.INVALID_ARGUMENT;
    private static final Map<String, Call> CALLS = new HashMap<>();
    private static final List<String> ON_STREETS = new ArrayList<>();

    private record Call(Method method, Object[] values) {
    }

    private final CranePermits object = new CranePermits();
    private final List<String> calls = new ArrayList<>();
    private List<String> told = null;

    /** A new object on which these calls were made. */
    static Run of(String... calls) {
        return new Run().then(calls);
    }

    /** Another object with the same calls. */
    Run again() {
        return replayed(calls);
    }

    private static Run replayed(List<String> calls) {
        Run run = new Run();
        for (String call : calls) {
            run.ask(call);
        }
        return run;
    }

    /** Makes calls of which none is to be refused. */
    Run then(String... more) {
        for (String call : more) {
            long answer = ask(call);
            Due.is("whether " + call + " of the run is refused with " + answer,
                    isError(answer) ? 1 : 0, 0);
        }
        return this;
    }

    Run due(String call, long want) {
        Due.is(call + after(), ask(call), want);
        return this;
    }

    /** On another object with the same calls, so that this one has no call more. */
    Run wouldAnswer(String call, long want) {
        Due.is(call + after(), again().ask(call), want);
        return this;
    }

    /** The call answers this error and changes nothing; tried on another object. */
    Run refused(String call, long error) {
        Run refused = again();
        Due.is(call + after(), refused.ask(call), error);
        return sameAs(call, refused);
    }

    /** The call records one state, which undo() restores; tried on another object. */
    Run restored(String call) {
        int ahead = (int) again().ask("count(7)");
        Run changed = again().then(call);
        Due.is("count(7) behind " + call, changed.again().ask("count(7)"), ahead + 1);
        Due.is("undo() behind " + call, changed.ask("undo()"), ahead);
        return sameAs(call + " and undo()", changed);
    }

    /** The call is none of the changes: it tells something, or is refused, and no more. */
    Run unchanged(String call) {
        Run asked = again();
        asked.ask(call);
        return sameAs(call, asked);
    }

    /** The values from least to most are taken in place of #, those beside them are refused. */
    Run range(String call, int least, int most) {
        for (int value : new int[] {least, most}) {
            String taken = with(call, value);
            long answer = again().ask(taken);
            Due.is("whether " + taken + " is refused with " + answer, isError(answer) ? 1 : 0, 0);
        }
        for (int value : new int[] {least - 1, most + 1, Integer.MIN_VALUE, Integer.MAX_VALUE}) {
            refused(with(call, value), INVALID);
        }
        return this;
    }

    static String with(String call, int value) {
        return call.replace("#", Integer.toString(value));
    }

    /** Types the text, behind what stands there. */
    Run write(String text) {
        for (int i = 0; i < text.length(); i++) {
            then("type(" + (int) text.charAt(i) + ")");
        }
        return this;
    }

    /** The place and the reason of the fault of this text, in place of the one that was there. */
    Run fault(String text, int place, int reason) {
        Run written = again();
        written.ask("clearText()");
        written.write(text);
        Due.is("fault(0) of " + text, written.ask("fault(0)"), place);
        Due.is("fault(1) of " + text, written.ask("fault(1)"), reason);
        return this;
    }

    Run noFault(String text) {
        return fault(text, CranePermits.NOT_FOUND, CranePermits.NOT_FOUND);
    }

    long ask(String call) {
        told = null;
        calls.add(call);
        if (calls.size() > MOST_CALLS) {
            Due.is("the number of the call " + call, calls.size(), MOST_CALLS);
        }
        return answer(call);
    }

    int length() {
        return calls.size();
    }

    private long answer(String text) {
        Call call = CALLS.computeIfAbsent(text, Run::parsed);
        try {
            return (Integer) call.method.invoke(object, call.values);
        } catch (InvocationTargetException e) {
            throw new IllegalStateException(text + after(), e.getCause());
        } catch (IllegalAccessException e) {
            throw new IllegalStateException(text, e);
        }
    }

    private static Call parsed(String text) {
        int open = text.indexOf('(');
        String name = text.substring(0, open);
        String values = text.substring(open + 1, text.length() - 1);
        Object[] numbers = values.isEmpty() ? new Object[0]
                : Arrays.stream(values.split(", ")).map(Integer::valueOf).toArray();
        for (Method method : CranePermits.class.getDeclaredMethods()) {
            if (method.getName().equals(name) && method.getParameterCount() == numbers.length) {
                return new Call(method, numbers);
            }
        }
        throw new IllegalArgumentException(text);
    }

    private static boolean isError(long answer) {
        return answer >= CranePermits.NOT_FOUND && answer <= INVALID;
    }

    private String after() {
        int from = Math.max(0, calls.size() - 12);
        return " after " + (from > 0 ? ".. " : "")
                + String.join("; ", calls.subList(from, calls.size()));
    }

    private Run sameAs(String what, Run other) {
        if (told == null) {
            told = everything(calls);
        }
        List<String> others = everything(other.calls);
        for (int i = 0; i < told.size() && i < others.size(); i++) {
            if (!told.get(i).equals(others.get(i))) {
                Due.same("after " + what + " the object" + after(), others.get(i), told.get(i));
                return this;
            }
        }
        Due.is("how much is told behind " + what, others.size(), told.size());
        return this;
    }

    /** All that the object tells after these calls, and after up to five calls of undo() more. */
    private static List<String> everything(List<String> calls) {
        List<String> answers = new ArrayList<>();
        List<String> ahead = new ArrayList<>(calls);
        for (int undone = 0; undone <= 5 && ahead.size() < MOST_CALLS - 3; undone++) {
            tell(ahead, answers);
            Run undo = replayed(ahead);
            answers.add("undo() = " + undo.ask("undo()"));
            ahead.add("undo()");
        }
        return answers;
    }

    private static void tell(List<String> ahead, List<String> answers) {
        Run run = replayed(ahead);
        List<String> questions = questions((int) run.ask("count(0)"), (int) run.ask("count(2)"));
        for (String question : questions) {
            if (run.calls.size() == MOST_CALLS) {
                run = replayed(ahead);
            }
            answers.add(question + " = " + run.ask(question));
        }
    }

    private static List<String> questions(int cranes, int permits) {
        List<String> questions = new ArrayList<>(onStreets());
        addEach(questions, "count(#)", 13);
        addEach(questions, "fault(#)", 2);
        addEach(questions, "inOrder(#)", Math.min(permits, 24));
        for (int crane = 0; crane < cranes; crane++) {
            addEach(questions, "craneOf(" + crane + ", #)", 8);
        }
        for (int permit = 0; permit < permits; permit++) {
            addEach(questions, "permit(" + permit + ", #)", 6);
        }
        return questions;
    }

    private static List<String> onStreets() {
        for (int i = 0; ON_STREETS.size() < 4 * 30 * 7; i++) {
            addEach(ON_STREETS, "street(" + i / 30 + ", " + i % 30 + ", #)", 7);
        }
        return ON_STREETS;
    }

    private static void addEach(List<String> questions, String question, int many) {
        for (int value = 0; value < many; value++) {
            questions.add(with(question, value));
        }
    }
}
