import java.math.BigInteger;
import java.util.ArrayDeque;
import java.util.ArrayList;
import java.util.Comparator;
import java.util.Deque;
import java.util.HashMap;
import java.util.HashSet;
import java.util.List;
import java.util.Map;
import java.util.Set;
import java.util.TreeMap;

/**
 * The document once more, written in another way than the class: what happened is kept in logs and
 * maps, the SUMS are dealt out of the LAND in one walk, offers stand in a queue, payments in a list.
 */
final class Model {
    private enum Refusal { INDEX, ARGUMENT, STATE }

    /** Thrown where the document wants an exception. */
    static final class Refused extends RuntimeException {
        private static final long serialVersionUID = 1;
        final transient Refusal refusal;

        Refused(Refusal refusal) {
            super(null, null, false, false);
            this.refusal = refusal;
        }

        String exceptionName() {
            switch (refusal) {
                case INDEX:
                    return "java.lang.IndexOutOfBoundsException";
                case ARGUMENT:
                    return "java.lang.IllegalArgumentException";
                default:
                    return "java.lang.IllegalStateException";
            }
        }
    }

    private record Told(int day, int use, int cents) {
    }

    private record Party(int number, int kind, int plot, int person, int since, int measure, int profit) {
        boolean isOver(int day) {
            return kind == 1 && day >= measure;
        }
    }

    private record Payment(int day, long ofSum, long gain) {
    }

    private static final class Land {
        int area = 10;
        int use = 0;
        int state = 0;
        int part = 0;
        int valueDay = -1;
        long land = 0;
        boolean works = false;
        Deque<Integer> offers = new ArrayDeque<>();
        long price = 0;
    }

    private static final class Plan {
        int harm;
        int rise;
        Integer confirmed;
        Integer dropped;
        final Set<Integer> needs = new HashSet<>();

        int state() {
            return dropped != null ? 2 : confirmed != null ? 1 : 0;
        }
    }

    private final List<Told> prices = new ArrayList<>(List.of(new Told(0, 0, 5), new Told(0, 1, 20), new Told(0, 2, 30)));
    private final List<Land> lands = new ArrayList<>();
    private final List<Party> parties = new ArrayList<>();
    private final List<Plan> plans = new ArrayList<>();
    private final Map<Integer, Integer> notices = new HashMap<>();
    private final Map<Integer, Boolean> objections = new HashMap<>();
    private final Map<Integer, Long> sums = new TreeMap<>();
    private final Map<Integer, List<Payment>> payments = new HashMap<>();
    private final Set<Integer> advanced = new HashSet<>();
    private final Set<Integer> settled = new HashSet<>();
    private long court = 0;
    private long back = 0;
    private int today = 0;

    Model() {
        for (int i = 0; i < 36; i++) {
            lands.add(new Land());
        }
    }

    int countInterests() {
        return parties.size();
    }

    int countSchemes() {
        return plans.size();
    }

    long countTaken() {
        return lands.stream().filter(l -> l.state == 1).count();
    }

    private static void index(boolean holds) {
        if (!holds) {
            throw new Refused(Refusal.INDEX);
        }
    }

    private static void argument(boolean holds) {
        if (!holds) {
            throw new Refused(Refusal.ARGUMENT);
        }
    }

    private static void state(boolean holds) {
        if (!holds) {
            throw new Refused(Refusal.STATE);
        }
    }

    private Land land(int plot) {
        index(plot >= 0 && plot <= 35);
        return lands.get(plot);
    }

    private Party party(int interest) {
        index(interest >= 0 && interest < parties.size());
        return parties.get(interest);
    }

    private Plan plan(int scheme) {
        index(scheme >= 0 && scheme < plans.size());
        return plans.get(scheme);
    }

    private int needer(int plot) {
        for (int i = 0; i < plans.size(); i++) {
            if (plans.get(i).needs.contains(plot)) {
                return i;
            }
        }
        return -1;
    }

    private int priceOn(int use, int day) {
        Told last = null;
        for (Told told : prices) {
            if (told.use == use && told.day <= day) {
                last = told;
            }
        }
        return last.cents;
    }

    private long worthOn(int plot, int day) {
        return (long) lands.get(plot).area * priceOn(lands.get(plot).use, day);
    }

    private boolean isFree(int plot) {
        return lands.get(plot).state == 0;
    }

    long plot(int plot, int area, int use) {
        Land l = land(plot);
        argument(area >= 1 && area <= 100 && use >= 0 && use <= 2);
        state(l.state == 0 && needer(plot) < 0);
        int before = l.area;
        l.area = area;
        l.use = use;
        return before;
    }

    long price(int use, int cents) {
        argument(use >= 0 && use <= 2 && cents >= 0 && cents <= 1000);
        int before = priceOn(use, today);
        prices.add(new Told(today, use, cents));
        return before;
    }

    long worth(int plot, int day) {
        land(plot);
        argument(day >= 0 && day <= today);
        return worthOn(plot, day);
    }

    long market(int plot) {
        land(plot);
        long full = worthOn(plot, today);
        if (!isFree(plot)) {
            return full;
        }
        if (needer(plot) >= 0) {
            return full * 70 / 100;
        }
        for (int other = 0; other < 36; other++) {
            int rows = Math.abs(other / 6 - plot / 6);
            int columns = Math.abs(other % 6 - plot % 6);
            if (rows + columns == 1 && needer(other) >= 0) {
                return full * 90 / 100;
            }
        }
        return full;
    }

    long plotOf(int plot, int what) {
        Land l = land(plot);
        argument(what >= 0 && what <= 8);
        boolean isOffered = !l.offers.isEmpty();
        long[] answers = {l.area, l.use, l.state, needer(plot), l.part, l.valueDay, l.works ? 1 : 0,
            isOffered ? l.offers.peek() : -1, isOffered ? l.price : 0};
        return answers[what];
    }

    private long tell(int kind, int plot, int person, int measure, int profit) {
        state(parties.size() < 24 && isFree(plot));
        parties.add(new Party(parties.size(), kind, plot, person, today, measure, profit));
        return parties.size() - 1;
    }

    long own(int plot, int person, int share) {
        index(plot >= 0 && plot <= 35 && person >= 0 && person <= 9);
        argument(share >= 1 && share <= 100);
        argument(share + owners(plot).stream().mapToInt(Party::measure).sum() <= 100);
        return tell(0, plot, person, share, 0);
    }

    long lease(int plot, int person, int until, int profit) {
        index(plot >= 0 && plot <= 35 && person >= 0 && person <= 9);
        argument(until > today && until <= 30000 && profit >= 0 && profit <= 100);
        return tell(1, plot, person, until, profit);
    }

    long charge(int plot, int person, int debt) {
        index(plot >= 0 && plot <= 35 && person >= 0 && person <= 9);
        argument(debt >= 1 && debt <= 100000);
        return tell(2, plot, person, debt, 0);
    }

    private List<Party> of(int plot) {
        return parties.stream().filter(x -> x.plot == plot).toList();
    }

    private List<Party> owners(int plot) {
        return of(plot).stream().filter(x -> x.kind == 0).toList();
    }

    long interestOf(int interest, int what) {
        Party x = party(interest);
        argument(what >= 0 && what <= 8);
        long paid = payments.getOrDefault(interest, List.of()).stream().mapToLong(p -> p.ofSum + p.gain).sum();
        long[] answers = {x.kind, x.plot, x.person, x.since, x.measure, notices.getOrDefault(interest, -1),
            objections.getOrDefault(interest, false) ? 1 : 0, sums.getOrDefault(interest, 0L), paid};
        return answers[what];
    }

    long scheme(int harm, int rise) {
        argument(harm >= 0 && harm <= 50 && rise >= 0 && rise <= 50);
        state(plans.size() < 4);
        Plan s = new Plan();
        s.harm = harm;
        s.rise = rise;
        plans.add(s);
        return plans.size() - 1;
    }

    long draw(int scheme, int plot, int part) {
        Plan s = plan(scheme);
        Land l = land(plot);
        argument(part >= 1 && part <= 100);
        state(s.state() == 0 && l.state == 0 && needer(plot) < 0);
        s.needs.add(plot);
        l.part = part;
        return s.needs.size();
    }

    private Plan draftOf(Party x) {
        int scheme = needer(x.plot);
        state(isFree(x.plot) && scheme >= 0 && plans.get(scheme).state() == 0);
        return plans.get(scheme);
    }

    long notice(int interest) {
        Party x = party(interest);
        draftOf(x);
        state(!notices.containsKey(interest));
        notices.put(interest, today);
        return needer(x.plot);
    }

    private long openObjections(Plan s) {
        return parties.stream().filter(x -> s.needs.contains(x.plot) && isFree(x.plot))
                .filter(x -> objections.getOrDefault(x.number, false)).count();
    }

    long object(int interest) {
        Plan s = draftOf(party(interest));
        state(notices.containsKey(interest) && today <= notices.get(interest) + 21 && !objections.containsKey(interest));
        objections.put(interest, true);
        return openObjections(s);
    }

    long hear(int interest, boolean isUpheld) {
        Party x = party(interest);
        Plan s = draftOf(x);
        state(objections.getOrDefault(interest, false));
        objections.put(interest, false);
        if (isUpheld) {
            s.needs.remove(x.plot);
            forget(x.plot);
        }
        return openObjections(s);
    }

    private void forget(int plot) {
        lands.get(plot).part = 0;
        of(plot).forEach(x -> {
            notices.remove(x.number);
            objections.remove(x.number);
        });
    }

    private int stopper(Plan s) {
        return parties.stream().filter(x -> s.needs.contains(x.plot) && isFree(x.plot) && !x.isOver(today))
                .filter(x -> !notices.containsKey(x.number) || notices.get(x.number) + 21 > today
                        || objections.getOrDefault(x.number, false))
                .mapToInt(Party::number).findFirst().orElse(-1);
    }

    long confirm(int scheme) {
        Plan s = plan(scheme);
        long free = s.needs.stream().filter(this::isFree).count();
        state(s.state() == 0 && free > 0 && stopper(s) < 0);
        s.confirmed = today;
        return free;
    }

    long whoStops(int scheme) {
        Plan s = plan(scheme);
        return s.state() == 0 ? stopper(s) : -1;
    }

    long drop(int scheme) {
        Plan s = plan(scheme);
        state(s.dropped == null);
        s.dropped = today;
        long offered = 0;
        for (int plot : s.needs) {
            Land l = lands.get(plot);
            if (l.state == 0) {
                forget(plot);
            } else if (!l.works) {
                owners(plot).stream().sorted(Comparator.comparingInt(Party::measure).reversed()
                        .thenComparingInt(Party::number)).forEach(x -> l.offers.add(x.number));
                l.price = worthOn(plot, today) * l.part / 100;
                offered += l.offers.isEmpty() ? 0 : 1;
            }
        }
        s.needs.clear();
        return offered;
    }

    long schemeOf(int scheme, int what) {
        Plan s = plan(scheme);
        argument(what >= 0 && what <= 3);
        long[] answers = {s.state(), s.needs.size(), s.confirmed == null ? -1 : s.confirmed, s.dropped == null ? -1 : s.dropped};
        return answers[what];
    }

    long enter(int plot) {
        Land l = land(plot);
        int scheme = needer(plot);
        state(l.state == 0 && scheme >= 0);
        Plan s = plans.get(scheme);
        state(s.state() == 1 && today <= s.confirmed + 1095);
        return take(plot, s);
    }

    long blight(int interest) {
        Party x = party(interest);
        argument(x.kind == 0);
        Land l = lands.get(x.plot);
        state(l.state == 0 && l.use == 1 && needer(x.plot) >= 0 && x.since + 180 <= today);
        l.part = 100;
        return take(x.plot, plans.get(needer(x.plot)));
    }

    private long take(int plot, Plan s) {
        Land l = lands.get(plot);
        l.state = 1;
        l.valueDay = today;
        long whole = worthOn(plot, today);
        long part = whole * l.part / 100;
        long rest = whole - part;
        l.land = Math.max(0, part + rest * s.harm / 100 - rest * s.rise / 100);
        long left = l.land;
        for (Party x : of(plot)) {
            if (x.kind == 2) {
                long gets = Math.min(left, x.measure);
                sums.put(x.number, gets);
                left -= gets;
            }
        }
        long forOwners = left;
        for (Party x : of(plot)) {
            if (x.kind == 0) {
                long gets = forOwners * x.measure / 100;
                left -= gets;
                boolean isHomeOfLong = l.use == 1 && l.part == 100 && x.since + 365 <= today;
                sums.put(x.number, isHomeOfLong ? gets + gets / 10 : gets);
            } else if (x.kind == 1) {
                sums.put(x.number, x.isOver(today) ? 0 : x.profit * (Math.min(730L, x.measure - today) + (l.use == 2 ? 90 : 0)));
            }
        }
        court += left;
        return l.land;
    }

    long works(int plot) {
        Land l = land(plot);
        state(l.state == 1 && !l.works && needer(plot) >= 0);
        l.works = true;
        return lands.stream().filter(x -> x.works).count();
    }

    long sumAnew(int interest) {
        party(interest);
        return sums.getOrDefault(interest, 0L);
    }

    private static long gain(long unpaid, int days) {
        return BigInteger.valueOf(unpaid).multiply(BigInteger.valueOf(days)).multiply(BigInteger.valueOf(3))
                .divide(BigInteger.valueOf(36500)).longValueExact();
    }

    private long unpaid(int interest) {
        return sums.getOrDefault(interest, 0L)
                - payments.getOrDefault(interest, List.of()).stream().mapToLong(Payment::ofSum).sum();
    }

    private long gainOf(int interest) {
        long unpaid = sums.getOrDefault(interest, 0L);
        int from = lands.get(parties.get(interest).plot).valueDay;
        long gain = 0;
        for (Payment p : payments.getOrDefault(interest, List.of())) {
            gain += gain(unpaid, p.day - from) - p.gain;
            unpaid -= p.ofSum;
            from = p.day;
        }
        return gain + gain(unpaid, today - from);
    }

    long owed(int interest) {
        party(interest);
        return sums.containsKey(interest) ? unpaid(interest) + gainOf(interest) : 0;
    }

    private long pay(int interest, long ofSum, long gain) {
        payments.computeIfAbsent(interest, k -> new ArrayList<>()).add(new Payment(today, ofSum, gain));
        return ofSum + gain;
    }

    long advance(int interest) {
        party(interest);
        state(sums.containsKey(interest) && !settled.contains(interest) && advanced.add(interest));
        return pay(interest, sums.get(interest) * 90 / 100, 0);
    }

    long settle(int interest) {
        party(interest);
        state(sums.containsKey(interest) && settled.add(interest));
        return pay(interest, unpaid(interest), gainOf(interest));
    }

    long refuse(int plot) {
        Land l = land(plot);
        state(!l.offers.isEmpty());
        l.offers.remove();
        return l.offers.isEmpty() ? -1 : l.offers.peek();
    }

    long accept(int plot) {
        Land l = land(plot);
        state(!l.offers.isEmpty());
        l.offers.clear();
        l.state = 2;
        back += l.price;
        return l.price;
    }

    long pass(int days) {
        argument(days >= 1 && days <= 1000);
        state(today + days <= 20000);
        today += days;
        return today;
    }

    long today() {
        return today;
    }

    long total(int what) {
        argument(what >= 0 && what <= 4);
        long paid = payments.values().stream().flatMap(List::stream).mapToLong(p -> p.ofSum + p.gain).sum();
        long[] answers = {sums.values().stream().mapToLong(Long::longValue).sum(), paid, court, back,
            lands.stream().mapToLong(l -> l.land).sum()};
        return answers[what];
    }

    long creditors(int person) {
        index(person >= 0 && person <= 9);
        return parties.stream().filter(x -> x.person == person && owed(x.number) > 0).count();
    }
}
