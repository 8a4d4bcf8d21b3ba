import java.util.ArrayList;
import java.util.List;

/**
 * A run of calls on one new Takinghall. It is remembered, so that it can be told once more to other
 * objects: what all questions answer is then found without asking one object more than 512 times.
 */
final class Story {
    /** A call of the face, or a question. */
    interface Call {
        long on(Takinghall hall);
    }

    static final Class<IndexOutOfBoundsException> INDEX = IndexOutOfBoundsException.class;
    static final Class<IllegalArgumentException> ARGUMENT = IllegalArgumentException.class;
    static final Class<IllegalStateException> STATE = IllegalStateException.class;

    private static final int CALLS_OF_AN_OBJECT = 512;

    private final List<Call> calls = new ArrayList<>();
    private final Takinghall hall = new Takinghall();

    /** Calls whose answers are looked at elsewhere, or not worth a look. */
    Story does(Call... some) {
        for (Call call : some) {
            call.on(hall);
            calls.add(call);
        }
        return this;
    }

    /** A call that has to answer what is due. */
    Story answers(long due, Call call) {
        long got;
        try {
            got = call.on(hall);
        } catch (RuntimeException e) {
            Tally.check(false, "threw " + e + ", due is " + due);
            return this;
        }
        calls.add(call);
        Tally.check(got == due, "answered " + got + ", due is " + due);
        return this;
    }

    /** A call that has to throw by a throw statement of the class, and to change nothing. */
    Story refuses(Class<? extends RuntimeException> due, Call call) {
        Class<?> thrown = thrownBy(hall, call);
        Tally.check(thrown == due, "threw " + thrown + ", due is " + due);
        List<Call> more = new ArrayList<>(calls);
        more.add(h -> {
            thrownBy(h, call);
            return 0;
        });
        Tally.check(picture(more).equals(picture(calls)), "a call that throws changed something");
        return this;
    }

    /** Several questions that have to change nothing, whatever they answer or throw. */
    Story changesNothingBy(Call... questions) {
        List<Call> more = new ArrayList<>(calls);
        for (Call question : questions) {
            more.add(h -> {
                thrownBy(h, question);
                return 0;
            });
        }
        Tally.check(picture(more).equals(picture(calls)), "a question changed something");
        return this;
    }

    private static Class<?> thrownBy(Takinghall hall, Call call) {
        try {
            call.on(hall);
            return null;
        } catch (RuntimeException e) {
            return e.getClass();
        }
    }

    /** What all questions answer behind some calls. */
    private static List<String> picture(List<Call> calls) {
        List<String> answers = new ArrayList<>();
        List<Call> questions = Questions.all();
        int room = CALLS_OF_AN_OBJECT - calls.size();
        for (int from = 0; from < questions.size(); from += room) {
            Takinghall again = new Takinghall();
            for (Call call : calls) {
                call.on(again);
            }
            for (Call question : questions.subList(from, Math.min(questions.size(), from + room))) {
                answers.add(Questions.answer(again, question));
            }
        }
        return answers;
    }
}
