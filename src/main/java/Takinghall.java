/** A hall that takes land for what all need. */
public final class Takinghall {
    public static final int NONE = -1;
    public static final int FIELD = 0, HOME = 1, SHOP = 2;
    public static final int FREE = 0, TAKEN = 1, BACK = 2;
    public static final int OWNER = 0, LEASE = 1, CHARGE = 2;
    public static final int DRAFT = 0, CONFIRMED = 1, DROPPED = 2;

    private static final int ROW_LENGTH = 6, PLOT_COUNT = 36;
    private static final int USE_COUNT = 3, PERSON_COUNT = 10;
    private static final int MOST_INTERESTS = 24, MOST_SCHEMES = 4;
    private static final int FIRST_AREA = 10, MOST_AREA = 100, MOST_CENTS = 1000;
    private static final int ALL = 100; // hundredths
    private static final int LAST_UNTIL = 30000, MOST_PROFIT = 100, MOST_DEBT = 100000;
    private static final int MOST_HARM = 50, MOST_RISE = 50;
    private static final int LAST_DAY = 20000, MOST_DAYS_A_PASS = 1000;
    private static final int NEEDED_HUNDREDTHS = 70, BESIDE_HUNDREDTHS = 90;
    private static final int OBJECTION_DAYS = 21, ENTRY_DAYS = 1095, BLIGHT_DAYS = 180;
    private static final int HOME_DAYS = 365, HOME_TENTH = 10;
    private static final int LEASE_DAYS = 730, SHOP_DAYS = 90;
    private static final int ADVANCE_HUNDREDTHS = 90;
    private static final int GAIN_TIMES = 3, GAIN_DIVISOR = 36500;

    /** A PRICE of one USE, with the one of an earlier day that it follows. */
    private static final class Price {
        final int day;
        final int cents;
        final Price earlier;

        Price(int day, int cents, Price earlier) {
            this.day = day;
            this.cents = cents;
            this.earlier = earlier;
        }
    }

    private static final class Scheme {
        final int number;
        final int harm;
        final int rise;
        int state = DRAFT;
        int confirmDay = NONE;
        int dropDay = NONE;

        Scheme(int number, int harm, int rise) {
            this.number = number;
            this.harm = harm;
            this.rise = rise;
        }
    }

    private static final class Plot {
        final int number;
        int area = FIRST_AREA;
        int use = FIELD;
        int state = FREE;
        // A TAKEN one keeps its SCHEME when that is DROPPED: its SUMS are found anew from it.
        Scheme scheme;
        int part;
        int valueDay = NONE;
        // Kept itself, because a PRICE that is told later on the VALUE DAY must not count.
        Price valuePrice;
        boolean hasWorks;
        Interest offeredTo;
        int offerPrice;

        Plot(int number) {
            this.number = number;
        }
    }

    private static final class Interest {
        final int number;
        final int kind;
        final Plot plot;
        final int person;
        final int since;
        // The share, the day until which it is, or the debt.
        final int measure;
        final int profit;
        int noticeDay = NONE;
        boolean hasObjected;
        boolean isObjectionOpen;
        long sum;
        long advanced;
        int advanceDay = NONE;
        long settled;
        boolean isSettled;

        Interest(int number, int kind, Plot plot, int person, int since, int measure, int profit) {
            this.number = number;
            this.kind = kind;
            this.plot = plot;
            this.person = person;
            this.since = since;
            this.measure = measure;
            this.profit = profit;
        }
    }

    private final Plot[] plots = new Plot[PLOT_COUNT];
    private final Price[] latestPrices = new Price[USE_COUNT];
    private final Interest[] interests = new Interest[MOST_INTERESTS];
    private int interestCount;
    private final Scheme[] schemes = new Scheme[MOST_SCHEMES];
    private int schemeCount;
    private int now;
    private long allSums;
    private long allPaid;
    private long inCourt;
    private long paidForBack;
    private long allLand;

    /** Begins without INTERESTS and SCHEMES, on the day 0. */
    public Takinghall() {
        for (int i = 0; i < plots.length; i++) {
            plots[i] = new Plot(i);
        }
        latestPrices[FIELD] = new Price(0, 5, null);
        latestPrices[HOME] = new Price(0, 20, null);
        latestPrices[SHOP] = new Price(0, 30, null);
    }

    // ---- PLOTS

    /** Tells a PLOT; returns its AREA before. */
    public int plot(int plot, int area, int use)
            throws IndexOutOfBoundsException, IllegalArgumentException, IllegalStateException {
        Plot p = plotAt(plot);
        if (p == null) {
            throw new IndexOutOfBoundsException("no such PLOT");
        }
        if (!isWithin(area, 1, MOST_AREA) || !isUse(use)) {
            throw new IllegalArgumentException("area or use out of its range");
        }
        if (p.state != FREE || isNeeded(p)) {
            throw new IllegalStateException("the PLOT is not FREE, or NEEDED");
        }
        int before = p.area;
        p.area = area;
        p.use = use;
        return before;
    }

    /** Tells a PRICE from TODAY on; returns the one ahead of that, TODAY. */
    public int price(int use, int cents) throws IllegalArgumentException {
        if (use < 0 || use >= latestPrices.length || !isWithin(cents, 0, MOST_CENTS)) {
            throw new IllegalArgumentException("use or cents out of its range");
        }
        int before = centsOf(priceOn(use, now));
        // One a day is kept, so that no more of them can gather than there are days.
        latestPrices[use] = new Price(now, cents, priceOn(use, now - 1));
        return before;
    }

    /** Returns the WORTH of a PLOT on a day, by the AREA and USE of now. */
    public int worth(int plot, int day) throws IndexOutOfBoundsException, IllegalArgumentException {
        Plot p = plotAt(plot);
        if (p == null) {
            throw new IndexOutOfBoundsException("no such PLOT");
        }
        if (!isWithin(day, 0, now)) {
            throw new IllegalArgumentException("day out of its range");
        }
        return worthBy(p, priceOn(p.use, day));
    }

    /** Returns the MARKET of a PLOT, TODAY. */
    public int market(int plot) throws IndexOutOfBoundsException {
        Plot p = plotAt(plot);
        if (p == null) {
            throw new IndexOutOfBoundsException("no such PLOT");
        }
        int full = worthToday(p);
        if (p.state != FREE) {
            return full;
        }
        if (isNeeded(p)) {
            return hundredths(full, NEEDED_HUNDREDTHS);
        }
        return isBesideNeeded(p.number) ? hundredths(full, BESIDE_HUNDREDTHS) : full;
    }

    /** Tells of a PLOT. */
    public int plotOf(int plot, int what) throws IndexOutOfBoundsException, IllegalArgumentException {
        Plot p = plotAt(plot);
        if (p == null) {
            throw new IndexOutOfBoundsException("no such PLOT");
        }
        switch (what) {
            case 0:
                return p.area;
            case 1:
                return p.use;
            case 2:
                return p.state;
            case 3:
                return numberOf(neederOf(p));
            case 4:
                return p.part;
            case 5:
                return p.valueDay;
            case 6:
                return p.hasWorks ? 1 : 0;
            case 7:
                return numberOf(p.offeredTo);
            case 8:
                return p.offerPrice;
            default:
                throw new IllegalArgumentException("what out of its range");
        }
    }

    // ---- INTERESTS

    /** Tells an OWNER; returns the number of the INTEREST. */
    public int own(int plot, int person, int share)
            throws IndexOutOfBoundsException, IllegalArgumentException, IllegalStateException {
        Plot p = plotAt(plot);
        if (p == null || !isPerson(person)) {
            throw new IndexOutOfBoundsException("no such PLOT or PERSON");
        }
        if (!isWithin(share, 1, ALL) || sharesOf(p) + share > ALL) {
            throw new IllegalArgumentException("share out of its range, or too much with the others");
        }
        if (!canTellInterest(p)) {
            throw new IllegalStateException("too many INTERESTS, or the PLOT is not FREE");
        }
        return tellInterest(OWNER, p, person, share, 0);
    }

    /** Tells a LEASE; returns the number of the INTEREST. */
    public int lease(int plot, int person, int until, int profit)
            throws IndexOutOfBoundsException, IllegalArgumentException, IllegalStateException {
        Plot p = plotAt(plot);
        if (p == null || !isPerson(person)) {
            throw new IndexOutOfBoundsException("no such PLOT or PERSON");
        }
        if (!isWithin(until, now + 1, LAST_UNTIL) || !isWithin(profit, 0, MOST_PROFIT)) {
            throw new IllegalArgumentException("until or profit out of its range");
        }
        if (!canTellInterest(p)) {
            throw new IllegalStateException("too many INTERESTS, or the PLOT is not FREE");
        }
        return tellInterest(LEASE, p, person, until, profit);
    }

    /** Tells a CHARGE; returns the number of the INTEREST. */
    public int charge(int plot, int person, int debt)
            throws IndexOutOfBoundsException, IllegalArgumentException, IllegalStateException {
        Plot p = plotAt(plot);
        if (p == null || !isPerson(person)) {
            throw new IndexOutOfBoundsException("no such PLOT or PERSON");
        }
        if (!isWithin(debt, 1, MOST_DEBT)) {
            throw new IllegalArgumentException("debt out of its range");
        }
        if (!canTellInterest(p)) {
            throw new IllegalStateException("too many INTERESTS, or the PLOT is not FREE");
        }
        return tellInterest(CHARGE, p, person, debt, 0);
    }

    /** Tells of an INTEREST. */
    public long interestOf(int interest, int what) throws IndexOutOfBoundsException, IllegalArgumentException {
        Interest x = interestAt(interest);
        if (x == null) {
            throw new IndexOutOfBoundsException("no such INTEREST");
        }
        switch (what) {
            case 0:
                return x.kind;
            case 1:
                return numberOf(x.plot);
            case 2:
                return x.person;
            case 3:
                return x.since;
            case 4:
                return x.measure;
            case 5:
                return x.noticeDay;
            case 6:
                return x.isObjectionOpen ? 1 : 0;
            case 7:
                return x.sum;
            case 8:
                return x.advanced + x.settled;
            default:
                throw new IllegalArgumentException("what out of its range");
        }
    }

    // ---- SCHEMES

    /** Tells a SCHEME; returns its number. */
    public int scheme(int harm, int rise) throws IllegalArgumentException, IllegalStateException {
        if (!isWithin(harm, 0, MOST_HARM) || !isWithin(rise, 0, MOST_RISE)) {
            throw new IllegalArgumentException("harm or rise out of its range");
        }
        int number = schemeCount;
        if (number < 0 || number >= schemes.length) {
            throw new IllegalStateException("too many SCHEMES");
        }
        schemes[number] = new Scheme(number, harm, rise);
        schemeCount = number + 1;
        return number;
    }

    /** Draws a PLOT into a SCHEME; returns how many the SCHEME NEEDS then. */
    public int draw(int scheme, int plot, int part)
            throws IndexOutOfBoundsException, IllegalArgumentException, IllegalStateException {
        Scheme s = schemeAt(scheme);
        Plot p = plotAt(plot);
        if (s == null || p == null) {
            throw new IndexOutOfBoundsException("no such SCHEME or PLOT");
        }
        if (!isWithin(part, 1, ALL)) {
            throw new IllegalArgumentException("part out of its range");
        }
        if (s.state != DRAFT || p.state != FREE || isNeeded(p)) {
            throw new IllegalStateException("the SCHEME is no DRAFT, or the PLOT is not FREE, or NEEDED");
        }
        p.scheme = s;
        p.part = part;
        return countNeeded(s);
    }

    /** Notifies an INTEREST, TODAY; returns the SCHEME of which it is notified. */
    public int notice(int interest) throws IndexOutOfBoundsException, IllegalStateException {
        Interest x = interestAt(interest);
        if (x == null) {
            throw new IndexOutOfBoundsException("no such INTEREST");
        }
        Scheme s = draftOfFreePlot(x.plot);
        if (s == null || x.noticeDay != NONE) {
            throw new IllegalStateException("no notice can be given to it");
        }
        x.noticeDay = now;
        return s.number;
    }

    /** Lets an INTEREST object; returns how many objections are OPEN then. */
    public int object(int interest) throws IndexOutOfBoundsException, IllegalStateException {
        Interest x = interestAt(interest);
        if (x == null) {
            throw new IndexOutOfBoundsException("no such INTEREST");
        }
        Scheme s = draftOfFreePlot(x.plot);
        if (s == null || x.noticeDay == NONE || now - x.noticeDay > OBJECTION_DAYS || x.hasObjected) {
            throw new IllegalStateException("it cannot object");
        }
        x.hasObjected = true;
        x.isObjectionOpen = true;
        return countOpenObjections(s);
    }

    /** Hears an objection; returns how many are OPEN then. */
    public int hear(int interest, boolean isUpheld) throws IndexOutOfBoundsException, IllegalStateException {
        Interest x = interestAt(interest);
        if (x == null) {
            throw new IndexOutOfBoundsException("no such INTEREST");
        }
        Scheme s = draftOfFreePlot(x.plot);
        if (s == null || !x.isObjectionOpen) {
            throw new IllegalStateException("it has no objection that can be heard");
        }
        if (isUpheld) {
            release(x.plot);
        } else {
            x.isObjectionOpen = false;
        }
        return countOpenObjections(s);
    }

    /** Confirms a SCHEME, TODAY; returns how many FREE PLOTS it NEEDS. */
    public int confirm(int scheme) throws IndexOutOfBoundsException, IllegalStateException {
        Scheme s = schemeAt(scheme);
        if (s == null) {
            throw new IndexOutOfBoundsException("no such SCHEME");
        }
        int free = countFreeNeeded(s);
        if (s.state != DRAFT || free == 0) {
            throw new IllegalStateException("the SCHEME is no DRAFT, or NEEDS no FREE PLOT");
        }
        // Which INTEREST it is, whoStops() tells: the language leaves no room for a cause.
        if (lowestThatStops(s) != null) {
            throw new IllegalStateException("an INTEREST stops the SCHEME");
        }
        s.state = CONFIRMED;
        s.confirmDay = now;
        return free;
    }

    /** Returns the lowest INTEREST for which a DRAFT cannot be CONFIRMED, TODAY, or NONE. */
    public int whoStops(int scheme) throws IndexOutOfBoundsException {
        Scheme s = schemeAt(scheme);
        if (s == null) {
            throw new IndexOutOfBoundsException("no such SCHEME");
        }
        return s.state == DRAFT ? numberOf(lowestThatStops(s)) : NONE;
    }

    /** Drops a SCHEME, TODAY; returns how many PLOTS are OFFERED by that. */
    public int drop(int scheme) throws IndexOutOfBoundsException, IllegalStateException {
        Scheme s = schemeAt(scheme);
        if (s == null) {
            throw new IndexOutOfBoundsException("no such SCHEME");
        }
        if (s.state == DROPPED) {
            throw new IllegalStateException("the SCHEME is DROPPED");
        }
        int offered = 0;
        for (Plot p : plots) {
            if (isNeededBy(p, s) && letGo(p)) {
                offered++;
            }
        }
        s.state = DROPPED;
        s.dropDay = now;
        return offered;
    }

    /** Tells of a SCHEME. */
    public int schemeOf(int scheme, int what) throws IndexOutOfBoundsException, IllegalArgumentException {
        Scheme s = schemeAt(scheme);
        if (s == null) {
            throw new IndexOutOfBoundsException("no such SCHEME");
        }
        switch (what) {
            case 0:
                return s.state;
            case 1:
                return countNeeded(s);
            case 2:
                return s.confirmDay;
            case 3:
                return s.dropDay;
            default:
                throw new IllegalArgumentException("what out of its range");
        }
    }

    // ---- taking, paying

    /** Enters a PLOT, which takes it; returns the LAND. */
    public int enter(int plot) throws IndexOutOfBoundsException, IllegalStateException {
        Plot p = plotAt(plot);
        if (p == null) {
            throw new IndexOutOfBoundsException("no such PLOT");
        }
        Scheme s = neederOf(p);
        if (p.state != FREE || s == null || s.state != CONFIRMED || now - s.confirmDay > ENTRY_DAYS) {
            throw new IllegalStateException("the PLOT cannot be entered");
        }
        return take(p);
    }

    /** Lets a PLOT be TAKEN by BLIGHT; returns the LAND. */
    public int blight(int interest)
            throws IndexOutOfBoundsException, IllegalArgumentException, IllegalStateException {
        Interest x = interestAt(interest);
        if (x == null) {
            throw new IndexOutOfBoundsException("no such INTEREST");
        }
        if (x.kind != OWNER) {
            throw new IllegalArgumentException("not the INTEREST of an OWNER");
        }
        Plot p = x.plot;
        if (p == null || p.state != FREE || !isNeeded(p) || p.use != HOME || now - x.since < BLIGHT_DAYS) {
            throw new IllegalStateException("the PLOT cannot be TAKEN by BLIGHT");
        }
        p.part = ALL;
        return take(p);
    }

    /** Begins WORKS on a PLOT; returns how many PLOTS have WORKS then. */
    public int works(int plot) throws IndexOutOfBoundsException, IllegalStateException {
        Plot p = plotAt(plot);
        if (p == null) {
            throw new IndexOutOfBoundsException("no such PLOT");
        }
        if (p.state != TAKEN || p.hasWorks || !isNeeded(p)) {
            throw new IllegalStateException("WORKS cannot begin");
        }
        p.hasWorks = true;
        return countWorks();
    }

    /** Returns a SUM, found once more; 0 if its PLOT never was TAKEN. */
    public long sumAnew(int interest) throws IndexOutOfBoundsException {
        Interest x = interestAt(interest);
        if (x == null) {
            throw new IndexOutOfBoundsException("no such INTEREST");
        }
        return wasTaken(x.plot) ? sumBy(x, landOf(x.plot)) : 0;
    }

    /** Returns what is OWED to an INTEREST, TODAY, gain with it. */
    public long owed(int interest) throws IndexOutOfBoundsException {
        Interest x = interestAt(interest);
        if (x == null) {
            throw new IndexOutOfBoundsException("no such INTEREST");
        }
        return owedTo(x);
    }

    /** Pays an advance; returns what is paid. */
    public long advance(int interest) throws IndexOutOfBoundsException, IllegalStateException {
        Interest x = interestAt(interest);
        if (x == null) {
            throw new IndexOutOfBoundsException("no such INTEREST");
        }
        if (!wasTaken(x.plot) || x.advanceDay != NONE || x.isSettled) {
            throw new IllegalStateException("no advance can be paid to it");
        }
        long paid = x.sum * ADVANCE_HUNDREDTHS / ALL;
        x.advanced = paid;
        x.advanceDay = now;
        allPaid += paid;
        return paid;
    }

    /** Settles an INTEREST; returns what is paid. */
    public long settle(int interest) throws IndexOutOfBoundsException, IllegalStateException {
        Interest x = interestAt(interest);
        if (x == null) {
            throw new IndexOutOfBoundsException("no such INTEREST");
        }
        if (!wasTaken(x.plot) || x.isSettled) {
            throw new IllegalStateException("it cannot be settled");
        }
        long paid = owedTo(x);
        x.settled = paid;
        x.isSettled = true;
        allPaid += paid;
        return paid;
    }

    // ---- OFFERED

    /** Refuses the offer of a PLOT; returns the INTEREST to which it is OFFERED then, or NONE. */
    public int refuse(int plot) throws IndexOutOfBoundsException, IllegalStateException {
        Plot p = plotAt(plot);
        if (p == null) {
            throw new IndexOutOfBoundsException("no such PLOT");
        }
        if (p.offeredTo == null) {
            throw new IllegalStateException("the PLOT is not OFFERED");
        }
        Interest next = ownerBehind(p, p.offeredTo);
        offer(p, next, p.offerPrice);
        return numberOf(next);
    }

    /** Accepts the offer of a PLOT; returns what is paid for it. */
    public int accept(int plot) throws IndexOutOfBoundsException, IllegalStateException {
        Plot p = plotAt(plot);
        if (p == null) {
            throw new IndexOutOfBoundsException("no such PLOT");
        }
        if (p.offeredTo == null) {
            throw new IllegalStateException("the PLOT is not OFFERED");
        }
        int paid = p.offerPrice;
        p.state = BACK;
        offer(p, null, 0);
        paidForBack += paid;
        return paid;
    }

    // ---- days, sums

    /** Lets days pass; returns TODAY then. */
    public int pass(int days) throws IllegalArgumentException, IllegalStateException {
        if (!isWithin(days, 1, MOST_DAYS_A_PASS)) {
            throw new IllegalArgumentException("days out of its range");
        }
        if (now + days > LAST_DAY) {
            throw new IllegalStateException("TODAY would be above the last day");
        }
        now += days;
        return now;
    }

    /** Returns TODAY. */
    public int today() {
        return now;
    }

    /** Returns a sum. */
    public long total(int what) throws IllegalArgumentException {
        switch (what) {
            case 0:
                return allSums;
            case 1:
                return allPaid;
            case 2:
                return inCourt;
            case 3:
                return paidForBack;
            case 4:
                return allLand;
            default:
                throw new IllegalArgumentException("what out of its range");
        }
    }

    /** Counts the INTERESTS of a PERSON to whom something is OWED, TODAY. */
    public int creditors(int person) throws IndexOutOfBoundsException {
        if (!isPerson(person)) {
            throw new IndexOutOfBoundsException("no such PERSON");
        }
        int count = 0;
        for (Interest x : interests) {
            if (x != null && x.person == person && owedTo(x) > 0) {
                count++;
            }
        }
        return count;
    }

    // ---- ranges and numbers

    private static boolean isWithin(int value, int lowest, int highest) {
        return value >= lowest && value <= highest;
    }

    private static boolean isUse(int use) {
        return isWithin(use, FIELD, SHOP);
    }

    private static boolean isPerson(int person) {
        return isWithin(person, 0, PERSON_COUNT - 1);
    }

    private static int hundredths(int value, int count) {
        return value * count / ALL;
    }

    private Plot plotAt(int plot) {
        return plot >= 0 && plot < plots.length ? plots[plot] : null;
    }

    private Interest interestAt(int interest) {
        return interest >= 0 && interest < interests.length ? interests[interest] : null;
    }

    private Scheme schemeAt(int scheme) {
        return scheme >= 0 && scheme < schemes.length ? schemes[scheme] : null;
    }

    private static int numberOf(Plot p) {
        return p == null ? NONE : p.number;
    }

    private static int numberOf(Interest x) {
        return x == null ? NONE : x.number;
    }

    private static int numberOf(Scheme s) {
        return s == null ? NONE : s.number;
    }

    // ---- what things are worth

    /** The PRICE of a USE that holds on a day, or null ahead of the day 0. */
    private Price priceOn(int use, int day) {
        Price price = use >= 0 && use < latestPrices.length ? latestPrices[use] : null;
        while (price != null && price.day > day) {
            price = price.earlier;
        }
        return price;
    }

    private static int centsOf(Price price) {
        return price == null ? 0 : price.cents;
    }

    private static int worthBy(Plot p, Price price) {
        return p == null ? 0 : p.area * centsOf(price);
    }

    private int worthToday(Plot p) {
        return p == null ? 0 : worthBy(p, priceOn(p.use, now));
    }

    private boolean isBesideNeeded(int plot) {
        int column = plot % ROW_LENGTH;
        return column > 0 && isNeeded(plotAt(plot - 1))
                || column < ROW_LENGTH - 1 && isNeeded(plotAt(plot + 1))
                || isNeeded(plotAt(plot - ROW_LENGTH))
                || isNeeded(plotAt(plot + ROW_LENGTH));
    }

    // ---- who NEEDS what

    /** The SCHEME that NEEDS a PLOT, or null. */
    private static Scheme neederOf(Plot p) {
        Scheme s = p == null ? null : p.scheme;
        return s == null || s.state == DROPPED ? null : s;
    }

    private static boolean isNeeded(Plot p) {
        return neederOf(p) != null;
    }

    private static boolean isNeededBy(Plot p, Scheme s) {
        return s != null && neederOf(p) == s;
    }

    private static boolean isFreeAndNeededBy(Plot p, Scheme s) {
        return p != null && p.state == FREE && isNeededBy(p, s);
    }

    /** The DRAFT that NEEDS a FREE PLOT, or null. */
    private static Scheme draftOfFreePlot(Plot p) {
        Scheme s = neederOf(p);
        return s != null && s.state == DRAFT && isFreeAndNeededBy(p, s) ? s : null;
    }

    private int countNeeded(Scheme s) {
        int count = 0;
        for (Plot p : plots) {
            if (isNeededBy(p, s)) {
                count++;
            }
        }
        return count;
    }

    private int countFreeNeeded(Scheme s) {
        int count = 0;
        for (Plot p : plots) {
            if (isFreeAndNeededBy(p, s)) {
                count++;
            }
        }
        return count;
    }

    private int countWorks() {
        int count = 0;
        for (Plot p : plots) {
            if (p != null && p.hasWorks) {
                count++;
            }
        }
        return count;
    }

    private int countOpenObjections(Scheme s) {
        int count = 0;
        for (Interest x : interests) {
            if (x != null && x.isObjectionOpen && isFreeAndNeededBy(x.plot, s)) {
                count++;
            }
        }
        return count;
    }

    private Interest lowestThatStops(Scheme s) {
        for (Interest x : interests) {
            if (x != null && isFreeAndNeededBy(x.plot, s) && stops(x)) {
                return x;
            }
        }
        return null;
    }

    private boolean stops(Interest x) {
        if (x == null || isOver(x, now)) {
            return false;
        }
        return x.noticeDay == NONE || now - x.noticeDay < OBJECTION_DAYS || x.isObjectionOpen;
    }

    /** Lets a FREE PLOT not be NEEDED any more, as if nobody had been notified. */
    private void release(Plot p) {
        if (p == null) {
            return;
        }
        p.scheme = null;
        p.part = 0;
        for (Interest x : interests) {
            if (x != null && x.plot == p) {
                x.noticeDay = NONE;
                x.hasObjected = false;
                x.isObjectionOpen = false;
            }
        }
    }

    /** Does for one PLOT what is due when its SCHEME is DROPPED; tells whether it is OFFERED then. */
    private boolean letGo(Plot p) {
        if (p == null) {
            return false;
        }
        if (p.state == FREE) {
            release(p);
            return false;
        }
        if (p.hasWorks) {
            return false;
        }
        offer(p, ownerBehind(p, null), hundredths(worthToday(p), p.part));
        return p.offeredTo != null;
    }

    // ---- INTERESTS of a PLOT

    private boolean canTellInterest(Plot p) {
        return p != null && p.state == FREE && interestCount >= 0 && interestCount < interests.length;
    }

    private int tellInterest(int kind, Plot p, int person, int measure, int profit) {
        int number = interestCount;
        if (number < 0 || number >= interests.length) {
            return NONE;
        }
        interests[number] = new Interest(number, kind, p, person, now, measure, profit);
        interestCount = number + 1;
        return number;
    }

    private int sharesOf(Plot p) {
        int shares = 0;
        for (Interest x : interests) {
            if (x != null && x.kind == OWNER && x.plot == p) {
                shares += x.measure;
            }
        }
        return shares;
    }

    private static boolean isOver(Interest x, int day) {
        return x != null && x.kind == LEASE && day >= x.measure;
    }

    private static boolean wasTaken(Plot p) {
        return p != null && p.valueDay != NONE;
    }

    // ---- SUMS

    /** Takes a PLOT, TODAY, and fixes the SUMS of its INTERESTS; returns the LAND. */
    private int take(Plot p) {
        if (p == null) {
            return 0;
        }
        p.state = TAKEN;
        p.valueDay = now;
        p.valuePrice = priceOn(p.use, now);
        int land = landOf(p);
        for (Interest x : interests) {
            if (x != null && x.plot == p) {
                x.sum = sumBy(x, land);
                allSums += x.sum;
            }
        }
        inCourt += leftForCourt(p, land);
        allLand += land;
        return land;
    }

    private static int landOf(Plot p) {
        Scheme s = p == null ? null : p.scheme;
        if (p == null || s == null) {
            return 0;
        }
        int whole = worthBy(p, p.valuePrice);
        int part = hundredths(whole, p.part);
        int rest = whole - part;
        int land = part + hundredths(rest, s.harm) - hundredths(rest, s.rise);
        return Math.max(0, land);
    }

    /** The SUM of an INTEREST of a PLOT that was TAKEN, by its LAND. */
    private long sumBy(Interest x, int land) {
        if (x == null || x.plot == null) {
            return 0;
        }
        switch (x.kind) {
            case OWNER:
                return ownerSum(x, x.plot, land);
            case LEASE:
                return leaseSum(x, x.plot);
            default:
                return Math.min(x.measure, leftBehindCharges(x.plot, land, x.number));
        }
    }

    private int ownerSum(Interest x, Plot p, int land) {
        if (x == null || p == null) {
            return 0;
        }
        int byShare = hundredths(leftBehindCharges(p, land, MOST_INTERESTS), x.measure);
        boolean losesHome = p.use == HOME && p.part == ALL && p.valueDay - x.since >= HOME_DAYS;
        return losesHome ? byShare + byShare / HOME_TENTH : byShare;
    }

    private static int leaseSum(Interest x, Plot p) {
        if (x == null || p == null || isOver(x, p.valueDay)) {
            return 0;
        }
        int days = Math.min(LEASE_DAYS, x.measure - p.valueDay);
        return (p.use == SHOP ? days + SHOP_DAYS : days) * x.profit;
    }

    /** What the CHARGES of a PLOT whose numbers are below a bound leave of the LAND. */
    private int leftBehindCharges(Plot p, int land, int bound) {
        int left = land;
        for (Interest x : interests) {
            if (x != null && x.kind == CHARGE && x.plot == p && x.number < bound) {
                left -= Math.min(left, x.measure);
            }
        }
        return left;
    }

    private int leftForCourt(Plot p, int land) {
        int behindCharges = leftBehindCharges(p, land, MOST_INTERESTS);
        int left = behindCharges;
        for (Interest x : interests) {
            if (x != null && x.kind == OWNER && x.plot == p) {
                left -= hundredths(behindCharges, x.measure);
            }
        }
        return left;
    }

    // ---- what is OWED

    private long owedTo(Interest x) {
        if (x == null || !wasTaken(x.plot) || x.isSettled) {
            return 0;
        }
        return x.sum - x.advanced + gainOf(x);
    }

    private long gainOf(Interest x) {
        if (x == null || x.plot == null) {
            return 0;
        }
        int valueDay = x.plot.valueDay;
        if (x.advanceDay == NONE) {
            return gainOfRow(x.sum, now - valueDay);
        }
        return gainOfRow(x.sum, x.advanceDay - valueDay) + gainOfRow(x.sum - x.advanced, now - x.advanceDay);
    }

    private static long gainOfRow(long unpaid, long days) {
        return unpaid * days * GAIN_TIMES / GAIN_DIVISOR;
    }

    // ---- offers

    /** Offers a PLOT to an OWNER; to nobody if that is null. */
    private static void offer(Plot p, Interest owner, int price) {
        if (p != null) {
            p.offeredTo = owner;
            p.offerPrice = owner == null ? 0 : price;
        }
    }

    /** The OWNER of a PLOT to whom it is OFFERED behind another one, or first of all if that is null. */
    private Interest ownerBehind(Plot p, Interest last) {
        Interest next = null;
        for (Interest x : interests) {
            if (x == null || x.kind != OWNER || x.plot != p || !comesBehind(x, last)) {
                continue;
            }
            if (next == null || x.measure > next.measure) {
                next = x;
            }
        }
        return next;
    }

    private static boolean comesBehind(Interest x, Interest last) {
        if (x == null || last == null) {
            return x != null;
        }
        return x.measure < last.measure || x.measure == last.measure && x.number > last.number;
    }
}
