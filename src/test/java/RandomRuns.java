import java.util.ArrayDeque;
import java.util.Arrays;
import java.util.Deque;
import java.util.Map;
import java.util.Random;
import java.util.TreeMap;

/**
 * Runs of 512 calls, drawn by seeds that are always the same, of the class and of the Model beside it:
 * each answer and each exception has to be the same.
 */
final class RandomRuns {
    private static final int RUNS = 6000;
    private static final int CALLS = 512;
    private static final String[] NAMES = {
        "plot", "price", "worth", "market", "plotOf", "own", "lease", "charge", "interestOf", "scheme", "draw", "notice",
        "object", "hear", "confirm", "whoStops", "drop", "schemeOf", "enter", "blight", "works", "sumAnew", "owed",
        "advance", "settle", "refuse", "accept", "pass", "today", "total", "creditors"};
    private static final int[] WEIGHTS = {
        4, 4, 4, 4, 16, 5, 3, 3, 16, 1, 6, 6, 3, 2, 4, 6, 1, 4, 8, 16, 4, 8, 8, 4, 2, 5, 2, 10, 1, 6, 4};
    private static final int[] CLUSTER = {7, 8, 1, 13, 6, 5, 35, 11, 12, 0, 30, 29};
    private static final int[] DAYS = {1, 1, 2, 5, 19, 20, 21, 21, 21, 22, 159, 180, 185, 365, 366, 700, 1000};
    private static final int[] NUMBERS = {Integer.MIN_VALUE, -1, 0, 1, 2, 24, 36, 100, 101, 30000, 30001, Integer.MAX_VALUE};

    private record Planned(String name, int[] arguments) {
    }

    private final Random random;
    private final Deque<Planned> planned = new ArrayDeque<>();
    private final int plots;
    private final int wildness;
    private Takinghall hall = new Takinghall();
    private Model model = new Model();

    private RandomRuns(long seed) {
        random = new Random(seed);
        plots = 1 + random.nextInt(random.nextBoolean() ? 12 : 4);
        wildness = random.nextInt(12);
    }

    static void all() {
        Map<String, Integer> outcomes = new TreeMap<>();
        int failedBefore = Tally.failed();
        for (int seed = 0; seed < RUNS; seed++) {
            new RandomRuns(seed).run(seed, outcomes);
        }
        // The runs are worth little if some call never answers, or never throws what it could.
        for (String name : NAMES) {
            Tally.check(outcomes.getOrDefault(name + " answers", 0) > 200, name + " hardly ever answered");
        }
        if (Tally.failed() > failedBefore) {
            outcomes.forEach((outcome, count) -> System.out.println(outcome + ": " + count));
        }
    }

    private void run(int seed, Map<String, Integer> outcomes) {
        for (int i = 0; i < CALLS; i++) {
            Planned next = next();
            int[] a = next.arguments();
            String due = byModel(next.name(), a);
            String got = byClass(next.name(), a);
            boolean isSame = due.equals(got);
            Tally.check(isSame, "seed " + seed + " call " + i + " " + next.name() + Arrays.toString(a) + " answered " + got
                    + ", due is " + due);
            outcomes.merge(next.name() + (due.startsWith("java") ? " throws " + due : " answers"), 1, Integer::sum);
            if (!isSame) {
                return;
            }
        }
        for (Story.Call question : Questions.all()) {
            String got = Questions.answer(hall, question);
            // A machine's own exception is of another class than those of the document.
            Tally.check(!got.startsWith("java") || got.matches("java.lang.(IndexOutOfBounds|IllegalArgument)Exception"), got);
        }
    }

    /** The next call: mostly any, but at times a row of them that leads farther. */
    private Planned next() {
        if (planned.isEmpty() && random.nextInt(15) == 0) {
            planSome();
        }
        if (model.countSchemes() == 0 && random.nextInt(20) == 0) {
            plan("scheme", random.nextInt(51), random.nextInt(51));
        }
        if (!planned.isEmpty() && random.nextInt(8) > 0) {
            return planned.remove();
        }
        String name = NAMES[pick()];
        return new Planned(name, arguments(name));
    }

    private void plan(String name, int... arguments) {
        planned.add(new Planned(name, arguments));
    }

    private void planSome() {
        switch (random.nextInt(11)) {
            case 0, 1, 2:
                planNotices(random.nextInt(6));
                plan("pass", 21);
                planHearings(1 + random.nextInt(4));
                plan("confirm", scheme());
                break;
            case 3:
                planNotices(3);
                plan("pass", 1 + random.nextInt(22));
                planHearings(2);
                break;
            case 4, 5:
                for (int i = 0; i < plots; i++) {
                    plan("enter", CLUSTER[i]);
                }
                break;
            case 6:
                if (model.countTaken() > 0) {
                    plan("drop", scheme());
                }
                for (int i = 0; i < 12; i++) {
                    plan(random.nextInt(3) == 0 ? "accept" : "refuse", CLUSTER[random.nextInt(plots)]);
                    plan("plotOf", CLUSTER[random.nextInt(plots)], 7 + random.nextInt(2));
                }
                break;
            case 7, 8:
                for (int i = 0; i < model.countInterests(); i++) {
                    plan(random.nextBoolean() ? "advance" : random.nextBoolean() ? "settle" : "owed", i);
                }
                break;
            default:
                for (int i = 0; i < plots; i++) {
                    plan("draw", scheme(), CLUSTER[i], random.nextInt(3) == 0 ? 100 : 1 + random.nextInt(100));
                }
                break;
        }
    }

    private void planNotices(int objections) {
        for (int i = 0; i < model.countInterests(); i++) {
            plan("notice", i);
            if (random.nextInt(20) < objections) {
                plan("object", random.nextInt(i + 1));
            }
        }
    }

    private void planHearings(int upheld) {
        for (int i = 0; i < model.countInterests(); i++) {
            if (random.nextInt(20) == 0) {
                plan("object", i);
            }
            plan("hear", i, random.nextInt(10) < upheld ? 0 : 1);
        }
    }

    private int pick() {
        int at = random.nextInt(Arrays.stream(WEIGHTS).sum());
        int which = 0;
        while (at >= WEIGHTS[which]) {
            at -= WEIGHTS[which];
            which++;
        }
        return which;
    }

    private int below(int bound) {
        if (random.nextInt(100) < wildness) {
            return NUMBERS[random.nextInt(NUMBERS.length)];
        }
        return random.nextInt(bound);
    }

    private int plot() {
        int n = below(plots);
        return n >= 0 && n < plots ? CLUSTER[n] : n;
    }

    private int interest() {
        return below(random.nextInt(12) == 0 ? 24 : Math.max(1, model.countInterests()));
    }

    private int scheme() {
        return below(random.nextInt(12) == 0 ? 4 : Math.max(1, model.countSchemes()));
    }

    private int today() {
        return (int) model.today();
    }

    private int[] arguments(String name) {
        switch (name) {
            case "plot":
                return new int[] {plot(), 1 + below(100), random.nextInt(3) > 0 ? 1 : below(3)};
            case "price":
                return new int[] {below(3), below(random.nextBoolean() ? 40 : 1001)};
            case "worth":
                return new int[] {plot(), below(today() + 2)};
            case "plotOf":
                return new int[] {plot(), below(9)};
            case "own":
                return new int[] {plot(), below(10), 1 + below(random.nextInt(4) == 0 ? 100 : 35)};
            case "lease":
                return new int[] {plot(), below(10), today() + below(random.nextBoolean() ? 40 : 1500), below(101)};
            case "charge":
                return new int[] {plot(), below(10), 1 + below(random.nextInt(5) == 0 ? 100000 : 400)};
            case "interestOf":
                return new int[] {interest(), below(9)};
            case "scheme":
                return new int[] {below(51), below(51)};
            case "draw":
                return new int[] {scheme(), plot(), random.nextInt(3) == 0 ? 100 : 1 + below(100)};
            case "hear":
                return new int[] {interest(), random.nextInt(3)};
            case "schemeOf":
                return new int[] {scheme(), below(4)};
            case "pass":
                return new int[] {random.nextInt(20) == 0 ? below(1001) : DAYS[random.nextInt(DAYS.length)]};
            case "total":
                return new int[] {below(5)};
            case "creditors":
                return new int[] {below(10)};
            case "market", "enter", "works", "refuse", "accept":
                return new int[] {plot()};
            case "confirm", "whoStops", "drop":
                return new int[] {scheme()};
            default:
                return new int[] {interest()};
        }
    }

    private String byClass(String name, int[] a) {
        try {
            return Long.toString(tell(name, a));
        } catch (RuntimeException e) {
            return e.getClass().getName();
        }
    }

    private String byModel(String name, int[] a) {
        try {
            return Long.toString(ask(name, a));
        } catch (Model.Refused e) {
            return e.exceptionName();
        }
    }

    private long tell(String name, int[] a) {
        switch (name) {
            case "plot": return hall.plot(a[0], a[1], a[2]);
            case "price": return hall.price(a[0], a[1]);
            case "worth": return hall.worth(a[0], a[1]);
            case "market": return hall.market(a[0]);
            case "plotOf": return hall.plotOf(a[0], a[1]);
            case "own": return hall.own(a[0], a[1], a[2]);
            case "lease": return hall.lease(a[0], a[1], a[2], a[3]);
            case "charge": return hall.charge(a[0], a[1], a[2]);
            case "interestOf": return hall.interestOf(a[0], a[1]);
            case "scheme": return hall.scheme(a[0], a[1]);
            case "draw": return hall.draw(a[0], a[1], a[2]);
            case "notice": return hall.notice(a[0]);
            case "object": return hall.object(a[0]);
            case "hear": return hall.hear(a[0], a[1] == 0);
            case "confirm": return hall.confirm(a[0]);
            case "whoStops": return hall.whoStops(a[0]);
            case "drop": return hall.drop(a[0]);
            case "schemeOf": return hall.schemeOf(a[0], a[1]);
            case "enter": return hall.enter(a[0]);
            case "blight": return hall.blight(a[0]);
            case "works": return hall.works(a[0]);
            case "sumAnew": return hall.sumAnew(a[0]);
            case "owed": return hall.owed(a[0]);
            case "advance": return hall.advance(a[0]);
            case "settle": return hall.settle(a[0]);
            case "refuse": return hall.refuse(a[0]);
            case "accept": return hall.accept(a[0]);
            case "pass": return hall.pass(a[0]);
            case "today": return hall.today();
            case "total": return hall.total(a[0]);
            case "creditors": return hall.creditors(a[0]);
            default: throw new AssertionError(name);
        }
    }

    private long ask(String name, int[] a) {
        switch (name) {
            case "plot": return model.plot(a[0], a[1], a[2]);
            case "price": return model.price(a[0], a[1]);
            case "worth": return model.worth(a[0], a[1]);
            case "market": return model.market(a[0]);
            case "plotOf": return model.plotOf(a[0], a[1]);
            case "own": return model.own(a[0], a[1], a[2]);
            case "lease": return model.lease(a[0], a[1], a[2], a[3]);
            case "charge": return model.charge(a[0], a[1], a[2]);
            case "interestOf": return model.interestOf(a[0], a[1]);
            case "scheme": return model.scheme(a[0], a[1]);
            case "draw": return model.draw(a[0], a[1], a[2]);
            case "notice": return model.notice(a[0]);
            case "object": return model.object(a[0]);
            case "hear": return model.hear(a[0], a[1] == 0);
            case "confirm": return model.confirm(a[0]);
            case "whoStops": return model.whoStops(a[0]);
            case "drop": return model.drop(a[0]);
            case "schemeOf": return model.schemeOf(a[0], a[1]);
            case "enter": return model.enter(a[0]);
            case "blight": return model.blight(a[0]);
            case "works": return model.works(a[0]);
            case "sumAnew": return model.sumAnew(a[0]);
            case "owed": return model.owed(a[0]);
            case "advance": return model.advance(a[0]);
            case "settle": return model.settle(a[0]);
            case "refuse": return model.refuse(a[0]);
            case "accept": return model.accept(a[0]);
            case "pass": return model.pass(a[0]);
            case "today": return model.today();
            case "total": return model.total(a[0]);
            case "creditors": return model.creditors(a[0]);
            default: throw new AssertionError(name);
        }
    }
}
