import java.util.ArrayList;
import java.util.List;

/**
 * A run of calls on one new Takinghall. It is remembered, so that it can be told once more to other
 * objects: what all questions answer is then found without asking one object more than 512 times.
 */
final class Story {
    /** A call of the face, or a question. */
    interface Call {
        long on(Takinghall hall);
    }

    static final Class<IndexOutOfBoundsException> INDEX = IndexOutOfBoundsException.class;
    static final Class<IllegalArgumentException> ARGUMENT = IllegalArgumentException.class;
    static final Class<IllegalStateException> STATE = IllegalStateException.class;

    private static final int CALLS_OF_AN_OBJECT = 512;
    private static final int LONGEST_PASS = 1000;

    private final List<Call> calls = new ArrayList<>();
    private final Takinghall hall = new Takinghall();
    private int told;
    private int today;
    // What the questions answer behind the calls; null until it is asked for.
    private List<String> pictureOfNow;

    /** Calls that have to answer; what, is looked at elsewhere, or not worth a look. */
    Story does(Call... some) {
        for (Call call : some) {
            tell(call);
        }
        return this;
    }

    /** Lets days pass until TODAY is a day. */
    Story day(int day) {
        while (today < day) {
            int days = Math.min(LONGEST_PASS, day - today);
            tell(h -> h.pass(days));
            today += days;
        }
        Tally.check(hall.today() == day, "TODAY is " + hall.today() + ", due is " + day);
        return this;
    }

    /** A call that has to answer what is due. */
    Story answers(long due, Call call) {
        Long got = tell(call);
        if (got != null) {
            Tally.check(got == due, "answered " + got + ", due is " + due);
        }
        return this;
    }

    /** A call that has to throw by a throw statement of the class, and to change nothing. */
    Story refuses(Class<? extends RuntimeException> due, Call call) {
        count();
        Class<?> thrown = thrownBy(hall, call);
        Tally.check(thrown == due, "threw " + thrown + ", due is " + due);
        return changesNothingBy(call);
    }

    /** Questions, or calls that throw: nothing may be other behind them. */
    Story changesNothingBy(Call... some) {
        List<Call> more = new ArrayList<>(calls);
        for (Call call : some) {
            more.add(h -> {
                thrownBy(h, call);
                return 0;
            });
        }
        if (pictureOfNow == null) {
            pictureOfNow = picture(calls);
        }
        List<String> then = picture(more);
        for (int i = 0; i < then.size(); i++) {
            if (!then.get(i).equals(pictureOfNow.get(i))) {
                Tally.check(false, "what must change nothing made " + pictureOfNow.get(i) + " to " + then.get(i));
                return this;
            }
        }
        Tally.check(true, "");
        return this;
    }

    /** Tells a call that has to answer; null if it threw. */
    private Long tell(Call call) {
        count();
        try {
            long got = call.on(hall);
            calls.add(call);
            pictureOfNow = null;
            return got;
        } catch (RuntimeException e) {
            Tally.check(false, "threw " + e + " where an answer is due");
            return null;
        }
    }

    private void count() {
        told++;
        Tally.check(told <= CALLS_OF_AN_OBJECT, "an object is good for 512 calls");
    }

    private static Class<?> thrownBy(Takinghall hall, Call call) {
        try {
            call.on(hall);
            return null;
        } catch (RuntimeException e) {
            return e.getClass();
        }
    }

    /** What all questions answer behind some calls, and what other calls answer that would come next. */
    private static List<String> picture(List<Call> calls) {
        List<String> answers = new ArrayList<>();
        List<Call> questions = Questions.all();
        int room = Math.max(1, CALLS_OF_AN_OBJECT - calls.size());
        for (int from = 0; from < questions.size(); from += room) {
            tellAgain(calls, questions.subList(from, Math.min(questions.size(), from + room)), answers);
        }
        for (List<Call> next : Questions.whatComesNext()) {
            tellAgain(calls, next, answers);
        }
        return answers;
    }

    private static void tellAgain(List<Call> calls, List<Call> questions, List<String> answers) {
        Takinghall again = new Takinghall();
        for (Call call : calls) {
            call.on(again);
        }
        for (Call question : questions) {
            answers.add(Questions.answer(again, question));
        }
    }
}
