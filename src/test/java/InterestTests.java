/** Promises 7 to 10. */
final class InterestTests {
    private InterestTests() {
    }

    static void all() {
        promise7Own();
        promise8Lease();
        promise9Charge();
        promises7To9NotMoreThanTwentyFour();
        promises7To9OnlyOfFreePlots();
        promise10InterestOf();
        promise10InterestOfWhatWasTaken();
    }

    private static void promise7Own() {
        Story s = new Story().answers(0, h -> h.own(0, 0, 1)).answers(1, h -> h.own(0, 9, 98)).answers(2, h -> h.own(0, 0, 1));
        s.answers(3, h -> h.own(35, 3, 100)).refuses(Story.ARGUMENT, h -> h.own(0, 0, 1));
        s.refuses(Story.ARGUMENT, h -> h.own(35, 0, 1)).refuses(Story.ARGUMENT, h -> h.own(1, 0, 0));
        s.refuses(Story.ARGUMENT, h -> h.own(1, 0, 101)).refuses(Story.ARGUMENT, h -> h.own(0, 0, Integer.MAX_VALUE));
        s.refuses(Story.ARGUMENT, h -> h.own(1, 0, Integer.MIN_VALUE)).refuses(Story.INDEX, h -> h.own(36, 0, 1));
        s.refuses(Story.INDEX, h -> h.own(-1, 0, 0)).refuses(Story.INDEX, h -> h.own(1, 10, 0));
        s.refuses(Story.INDEX, h -> h.own(1, -1, 1));
        // Other INTERESTS of the PLOT have no shares.
        s = new Story().does(h -> h.charge(0, 0, 100), h -> h.lease(0, 0, 99, 9)).answers(2, h -> h.own(0, 0, 100));
    }

    private static void promise8Lease() {
        Story s = new Story().does(h -> h.pass(7)).answers(0, h -> h.lease(0, 0, 8, 0));
        s.answers(1, h -> h.lease(35, 9, 30000, 100)).answers(8, h -> h.interestOf(0, 4));
        s.answers(30000, h -> h.interestOf(1, 4)).refuses(Story.ARGUMENT, h -> h.lease(0, 0, 7, 1));
        s.refuses(Story.ARGUMENT, h -> h.lease(0, 0, 30001, 1)).refuses(Story.ARGUMENT, h -> h.lease(0, 0, 9, -1));
        s.refuses(Story.ARGUMENT, h -> h.lease(0, 0, 9, 101)).refuses(Story.INDEX, h -> h.lease(36, 0, 0, 0));
        s.refuses(Story.INDEX, h -> h.lease(-1, 0, 9, 0)).refuses(Story.INDEX, h -> h.lease(0, 10, 9, 0));
        s.refuses(Story.INDEX, h -> h.lease(0, -1, 9, 0)).refuses(Story.ARGUMENT, h -> h.lease(0, 0, Integer.MIN_VALUE, 0));
    }

    private static void promise9Charge() {
        Story s = new Story().answers(0, h -> h.charge(0, 0, 1)).answers(1, h -> h.charge(35, 9, 100000));
        s.answers(1, h -> h.interestOf(0, 4)).answers(100000, h -> h.interestOf(1, 4));
        s.refuses(Story.ARGUMENT, h -> h.charge(0, 0, 0)).refuses(Story.ARGUMENT, h -> h.charge(0, 0, 100001));
        s.refuses(Story.INDEX, h -> h.charge(36, 0, 0)).refuses(Story.INDEX, h -> h.charge(-1, 0, 1));
        s.refuses(Story.INDEX, h -> h.charge(0, 10, 1)).refuses(Story.INDEX, h -> h.charge(0, -1, 0));
    }

    private static void promises7To9NotMoreThanTwentyFour() {
        Story s = new Story();
        for (int i = 0; i < 24; i++) {
            int number = i;
            s.answers(number, h -> number % 2 == 0 ? h.charge(number, 0, 1) : h.lease(number, 0, 9, 1));
        }
        s.refuses(Story.STATE, h -> h.own(30, 0, 1)).refuses(Story.STATE, h -> h.lease(30, 0, 9, 1));
        s.refuses(Story.STATE, h -> h.charge(30, 0, 1)).refuses(Story.ARGUMENT, h -> h.own(30, 0, 0));
        s.refuses(Story.ARGUMENT, h -> h.lease(30, 0, 0, 1)).refuses(Story.ARGUMENT, h -> h.charge(30, 0, 0));
        s.answers(23, h -> h.interestOf(23, 1)).refuses(Story.INDEX, h -> h.interestOf(24, 1));
    }

    private static void promises7To9OnlyOfFreePlots() {
        Story s = new Story().does(h -> h.own(6, 0, 60), h -> h.scheme(0, 0), h -> h.draw(0, 6, 10));
        // NEEDED, notified and confirmed are no hindrance.
        s.answers(1, h -> h.own(6, 0, 1)).does(h -> h.notice(0), h -> h.notice(1), h -> h.pass(21), h -> h.confirm(0));
        s.answers(2, h -> h.own(6, 0, 1)).answers(3, h -> h.lease(6, 0, 99, 1)).answers(4, h -> h.charge(6, 0, 1));
        s.does(h -> h.enter(6)).refuses(Story.STATE, h -> h.own(6, 0, 38)).refuses(Story.ARGUMENT, h -> h.own(6, 0, 39));
        s.refuses(Story.STATE, h -> h.lease(6, 0, 99, 1)).refuses(Story.STATE, h -> h.charge(6, 0, 1));
        s.does(h -> h.drop(0)).refuses(Story.STATE, h -> h.own(6, 0, 1)).does(h -> h.accept(6));
        s.refuses(Story.STATE, h -> h.own(6, 0, 1)).refuses(Story.STATE, h -> h.lease(6, 0, 99, 1));
        s.refuses(Story.STATE, h -> h.charge(6, 0, 1)).answers(5, h -> h.charge(7, 0, 1));
    }

    private static void promise10InterestOf() {
        Story s = new Story().does(h -> h.pass(3), h -> h.own(5, 2, 40), h -> h.pass(1), h -> h.lease(6, 3, 77, 8));
        s.does(h -> h.charge(7, 4, 999));
        s.answers(Takinghall.OWNER, h -> h.interestOf(0, 0)).answers(Takinghall.LEASE, h -> h.interestOf(1, 0));
        s.answers(Takinghall.CHARGE, h -> h.interestOf(2, 0)).answers(5, h -> h.interestOf(0, 1));
        s.answers(6, h -> h.interestOf(1, 1)).answers(7, h -> h.interestOf(2, 1)).answers(2, h -> h.interestOf(0, 2));
        s.answers(3, h -> h.interestOf(1, 2)).answers(4, h -> h.interestOf(2, 2)).answers(3, h -> h.interestOf(0, 3));
        s.answers(4, h -> h.interestOf(1, 3)).answers(4, h -> h.interestOf(2, 3)).answers(40, h -> h.interestOf(0, 4));
        s.answers(77, h -> h.interestOf(1, 4)).answers(999, h -> h.interestOf(2, 4)).answers(-1, h -> h.interestOf(0, 5));
        s.answers(0, h -> h.interestOf(0, 6)).answers(0, h -> h.interestOf(0, 7)).answers(0, h -> h.interestOf(0, 8));
        s.refuses(Story.ARGUMENT, h -> h.interestOf(0, 9)).refuses(Story.ARGUMENT, h -> h.interestOf(0, -1));
        s.refuses(Story.INDEX, h -> h.interestOf(3, 9)).refuses(Story.INDEX, h -> h.interestOf(-1, 0));
        s.refuses(Story.INDEX, h -> h.interestOf(24, 0)).refuses(Story.INDEX, h -> h.interestOf(Integer.MAX_VALUE, 0));
    }

    private static void promise10InterestOfWhatWasTaken() {
        Story s = new Story().does(h -> h.plot(0, 100, 1), h -> h.own(0, 0, 50), h -> h.own(0, 1, 50), h -> h.scheme(0, 0));
        s.does(h -> h.draw(0, 0, 9), h -> h.pass(180), h -> h.notice(0), h -> h.object(0));
        s.answers(180, h -> h.interestOf(0, 5)).answers(1, h -> h.interestOf(0, 6)).does(h -> h.blight(1));
        // An INTEREST stays what it was told to be, its notice and its objection, too.
        s.answers(180, h -> h.interestOf(0, 5)).answers(1, h -> h.interestOf(0, 6)).answers(0, h -> h.interestOf(0, 3));
        s.answers(1000, h -> h.interestOf(0, 7)).answers(0, h -> h.interestOf(0, 8)).does(h -> h.advance(0));
        s.answers(900, h -> h.interestOf(0, 8)).does(h -> h.pass(1000), h -> h.settle(0), h -> h.settle(1));
        s.answers(1008, h -> h.interestOf(0, 8)).answers(1082, h -> h.interestOf(1, 8)).answers(1000, h -> h.interestOf(0, 7));
    }
}
