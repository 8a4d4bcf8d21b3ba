/** Promises 29 to 32. */
final class DayTests {
    private DayTests() {
    }

    static void all() {
        promises29And30PassAndToday();
        promise29PassRefuses();
        promise31Total();
        promise32Creditors();
    }

    private static void promises29And30PassAndToday() {
        Story s = new Story().answers(0, h -> h.today()).answers(1, h -> h.pass(1)).answers(1, h -> h.today());
        s.answers(1001, h -> h.pass(1000)).answers(1001, h -> h.today()).changesNothingBy(h -> h.today());
        s.refuses(Story.ARGUMENT, h -> h.pass(0)).answers(1001, h -> h.today());
    }

    private static void promise29PassRefuses() {
        Story s = new Story().refuses(Story.ARGUMENT, h -> h.pass(0)).refuses(Story.ARGUMENT, h -> h.pass(-1));
        s.refuses(Story.ARGUMENT, h -> h.pass(1001)).refuses(Story.ARGUMENT, h -> h.pass(Integer.MAX_VALUE));
        s.refuses(Story.ARGUMENT, h -> h.pass(Integer.MIN_VALUE));
        for (int i = 1; i < 20; i++) {
            int due = i * 1000;
            s.answers(due, h -> h.pass(1000));
        }
        s.answers(19999, h -> h.pass(999)).refuses(Story.STATE, h -> h.pass(2)).refuses(Story.STATE, h -> h.pass(1000));
        s.refuses(Story.ARGUMENT, h -> h.pass(1001)).answers(20000, h -> h.pass(1)).refuses(Story.STATE, h -> h.pass(1));
        s.answers(20000, h -> h.today()).answers(50, h -> h.worth(0, 20000)).answers(0, h -> h.lease(0, 0, 20001, 1));
    }

    private static void promise31Total() {
        Story s = new Story().does(h -> h.plot(0, 50, 1), h -> h.own(0, 0, 60), h -> h.charge(0, 1, 200), h -> h.lease(0, 2, 99, 3));
        s.does(h -> h.own(1, 3, 50), h -> h.scheme(0, 0), h -> h.draw(0, 0, 100), h -> h.draw(0, 1, 50), h -> h.notice(0));
        s.does(h -> h.notice(1), h -> h.notice(2), h -> h.notice(3), h -> h.pass(21), h -> h.confirm(0), h -> h.enter(0));
        s.answers(914, h -> h.total(0)).answers(0, h -> h.total(1)).answers(320, h -> h.total(2)).answers(0, h -> h.total(3));
        s.answers(1000, h -> h.total(4)).does(h -> h.enter(1)).answers(926, h -> h.total(0)).answers(333, h -> h.total(2));
        s.answers(1025, h -> h.total(4)).does(h -> h.advance(0)).answers(432, h -> h.total(1)).does(h -> h.pass(365));
        s.does(h -> h.settle(1)).answers(638, h -> h.total(1)).does(h -> h.settle(0)).answers(687, h -> h.total(1));
        s.does(h -> h.drop(0), h -> h.accept(1)).answers(25, h -> h.total(3)).does(h -> h.accept(0)).answers(1025, h -> h.total(3));
        s.answers(926, h -> h.total(0)).answers(333, h -> h.total(2)).answers(1025, h -> h.total(4));
        s.refuses(Story.ARGUMENT, h -> h.total(-1)).refuses(Story.ARGUMENT, h -> h.total(5));
        s.refuses(Story.ARGUMENT, h -> h.total(Integer.MAX_VALUE)).changesNothingBy(h -> h.total(0), h -> h.creditors(0));
    }

    private static void promise32Creditors() {
        Story s = new Story().does(h -> h.plot(0, 50, 1), h -> h.own(0, 9, 60), h -> h.charge(0, 9, 200), h -> h.lease(0, 9, 5, 3));
        s.does(h -> h.own(0, 0, 10), h -> h.own(1, 9, 2), h -> h.scheme(0, 0), h -> h.draw(0, 0, 100), h -> h.notice(0));
        s.does(h -> h.draw(0, 1, 100), h -> h.notice(1), h -> h.notice(3), h -> h.notice(4), h -> h.pass(21), h -> h.confirm(0)).answers(0, h -> h.creditors(9));
        // Neither a LEASE that was over, nor an INTEREST of another PLOT.
        s.does(h -> h.enter(0)).answers(2, h -> h.creditors(9)).answers(1, h -> h.creditors(0)).answers(0, h -> h.creditors(1));
        s.does(h -> h.advance(0)).answers(2, h -> h.creditors(9)).does(h -> h.settle(1)).answers(1, h -> h.creditors(9));
        s.does(h -> h.settle(0)).answers(0, h -> h.creditors(9)).does(h -> h.pass(900)).answers(0, h -> h.creditors(9));
        s.does(h -> h.enter(1)).answers(1, h -> h.creditors(9)).does(h -> h.settle(4)).answers(0, h -> h.creditors(9));
        s.answers(1, h -> h.creditors(0)).refuses(Story.INDEX, h -> h.creditors(-1)).refuses(Story.INDEX, h -> h.creditors(10));
        s.refuses(Story.INDEX, h -> h.creditors(Integer.MIN_VALUE));
    }
}
