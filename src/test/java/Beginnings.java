/** Stories from which many tests go on. */
final class Beginnings {
    private Beginnings() {
    }

    /** The PLOT 0 in a SCHEME that was CONFIRMED on the day 0; no INTEREST is told yet. */
    static Story confirmed(int harm, int rise, int area, int use, int part) {
        return new Story().does(h -> h.plot(0, area, use), h -> h.scheme(harm, rise), h -> h.draw(0, 0, part),
                h -> h.confirm(0));
    }

    /** The PLOT 0 drawn into a DRAFT on the day 0, with an OWNER of 50 hundredths, a LEASE until 30 and a CHARGE of 7. */
    static Story drawn() {
        return new Story().does(h -> h.own(0, 1, 50), h -> h.lease(0, 2, 30, 4), h -> h.charge(0, 3, 7), h -> h.scheme(0, 0),
                h -> h.draw(0, 0, 40));
    }

    /** As drawn, and all three were notified on the day 0. */
    static Story notified() {
        return drawn().does(h -> h.notice(0), h -> h.notice(1), h -> h.notice(2));
    }

    /** A HOME, the PLOT 0, with an OWNER of 50 hundredths, of which a DRAFT NEEDS a part, on the day 0. */
    static Story home(int part) {
        return new Story().does(h -> h.plot(0, 10, Takinghall.HOME), h -> h.own(0, 1, 50), h -> h.scheme(0, 0),
                h -> h.draw(0, 0, part));
    }

    /** The PLOT 0 TAKEN on the day 0, with a CHARGE of a debt that is its SUM. */
    static Story charged(int debt) {
        return confirmed(0, 0, 100, Takinghall.SHOP, 100).does(h -> h.price(Takinghall.SHOP, 1000),
                h -> h.charge(0, 3, debt), h -> h.enter(0));
    }

    /** The PLOTS 0 and 35 TAKEN on the day 0, each with an OWNER, 0 and 1. */
    static Story taken() {
        return new Story().does(h -> h.scheme(0, 0), h -> h.draw(0, 0, 100), h -> h.draw(0, 35, 100), h -> h.confirm(0),
                h -> h.own(0, 1, 50), h -> h.own(35, 1, 50), h -> h.enter(0), h -> h.enter(35));
    }

    /** As taken, and both are OFFERED. */
    static Story offered() {
        return taken().does(h -> h.drop(0));
    }

    /**
     * A hall in which there is something of all kinds, on the day 200. The PLOTS 0 to 2 were NEEDED by the SCHEME 0, which
     * is DROPPED: 0 is BACK, 1 is OFFERED, 2 has WORKS. The SCHEME 1 is CONFIRMED, 3 is TAKEN for it and 4 is FREE. The
     * SCHEME 2 is a DRAFT that NEEDS 5, a HOME, and 6. A PLOT p of these has the OWNERS 2p and 2p + 1. There are 16
     * INTERESTS: 13 can object still; 14, a LEASE of 7, and 15, a CHARGE of 1, were not notified.
     */
    static Story rich() {
        int[] needers = {0, 0, 0, 1, 1, 2, 2};
        Story s = new Story().does(h -> h.plot(5, 20, 1), h -> h.plot(7, 30, 2), h -> h.scheme(10, 5), h -> h.scheme(20, 30),
                h -> h.scheme(0, 0));
        for (int i = 0; i < needers.length; i++) {
            int plot = i;
            s.does(h -> h.own(plot, plot, 60), h -> h.own(plot, 9, 40), h -> h.draw(needers[plot], plot, 50));
        }
        s.does(h -> h.lease(7, 2, 900, 3));
        for (int i = 0; i < 12; i++) {
            int interest = i;
            s.does(h -> h.notice(interest));
        }
        s.does(h -> h.object(10), h -> h.object(11), h -> h.hear(11, false)).day(21);
        s.does(h -> h.confirm(0), h -> h.confirm(1), h -> h.charge(1, 3, 20), h -> h.enter(0), h -> h.enter(1));
        s.does(h -> h.enter(2), h -> h.enter(3), h -> h.works(2)).day(100);
        s.does(h -> h.advance(0), h -> h.settle(1), h -> h.price(0, 8), h -> h.notice(12)).day(150);
        return s.does(h -> h.drop(0), h -> h.accept(0), h -> h.refuse(1)).day(190).does(h -> h.notice(13)).day(200);
    }
}
