/** Promises 1 to 6. */
final class PlotTests {
    private PlotTests() {
    }

    static void all() {
        promise1ANewObject();
        promise2Plot();
        promise2PlotRefuses();
        promise3Price();
        promise4Worth();
        promise5Market();
        promise5MarketOfWhatWasTaken();
        promise6PlotOf();
        promise6PlotOfWhatWasTaken();
    }

    private static void promise1ANewObject() {
        Story s = new Story().answers(0, h -> h.today());
        for (int i = 0; i < 36; i++) {
            int plot = i;
            s.answers(10, h -> h.plotOf(plot, 0)).answers(Takinghall.FIELD, h -> h.plotOf(plot, 1));
            s.answers(Takinghall.FREE, h -> h.plotOf(plot, 2)).answers(-1, h -> h.plotOf(plot, 3));
            s.answers(0, h -> h.plotOf(plot, 4)).answers(-1, h -> h.plotOf(plot, 5));
            s.answers(0, h -> h.plotOf(plot, 6)).answers(-1, h -> h.plotOf(plot, 7));
            s.answers(0, h -> h.plotOf(plot, 8)).answers(50, h -> h.market(plot));
        }
        s = new Story().refuses(Story.INDEX, h -> h.interestOf(0, 0)).refuses(Story.INDEX, h -> h.schemeOf(0, 0));
        for (int i = 0; i < 5; i++) {
            int what = i;
            s.answers(0, h -> h.total(what));
        }
        for (int i = 0; i < 10; i++) {
            int person = i;
            s.answers(0, h -> h.creditors(person));
        }
        s.answers(5, h -> h.price(0, 1)).answers(20, h -> h.price(1, 1)).answers(30, h -> h.price(2, 1));
        s.answers(0, h -> h.own(0, 0, 1)).answers(0, h -> h.scheme(0, 0));
        // What one object is told, another one does not know.
        new Story().answers(5, h -> h.price(0, 7)).answers(0, h -> h.own(0, 0, 1));
    }

    private static void promise2Plot() {
        new Story().answers(10, h -> h.plot(0, 1, 0)).answers(1, h -> h.plot(0, 100, 2))
                .answers(100, h -> h.plotOf(0, 0)).answers(2, h -> h.plotOf(0, 1))
                .answers(100, h -> h.plot(0, 40, 1)).answers(40, h -> h.plotOf(0, 0)).answers(1, h -> h.plotOf(0, 1))
                .answers(10, h -> h.plot(35, 3, 1)).answers(3, h -> h.plotOf(35, 0))
                .answers(10, h -> h.plotOf(34, 0)).answers(0, h -> h.plotOf(34, 1));
        // INTERESTS are no hindrance, and a PLOT that was let go can be told again.
        new Story().does(h -> h.own(3, 0, 100), h -> h.scheme(0, 0), h -> h.draw(0, 3, 5))
                .refuses(Story.STATE, h -> h.plot(3, 7, 1)).does(h -> h.drop(0)).answers(10, h -> h.plot(3, 7, 1));
    }

    private static void promise2PlotRefuses() {
        Story s = new Story().does(h -> h.plot(4, 20, 1));
        s.refuses(Story.INDEX, h -> h.plot(-1, 1, 1)).refuses(Story.INDEX, h -> h.plot(36, 1, 1));
        s.refuses(Story.INDEX, h -> h.plot(Integer.MIN_VALUE, 0, 9));
        s.refuses(Story.INDEX, h -> h.plot(Integer.MAX_VALUE, 1, 1));
        s.refuses(Story.ARGUMENT, h -> h.plot(4, 0, 1)).refuses(Story.ARGUMENT, h -> h.plot(4, 101, 1));
        s.refuses(Story.ARGUMENT, h -> h.plot(4, 1, -1)).refuses(Story.ARGUMENT, h -> h.plot(4, 1, 3));
        s.does(h -> h.scheme(0, 0), h -> h.draw(0, 4, 50));
        s.refuses(Story.STATE, h -> h.plot(4, 30, 2)).refuses(Story.ARGUMENT, h -> h.plot(4, 0, 2));
        s.does(h -> h.confirm(0)).refuses(Story.STATE, h -> h.plot(4, 30, 2));
        s.does(h -> h.enter(4)).refuses(Story.STATE, h -> h.plot(4, 30, 2));
        s.does(h -> h.drop(0)).refuses(Story.STATE, h -> h.plot(4, 30, 2)).answers(20, h -> h.plotOf(4, 0));
    }

    private static void promise3Price() {
        Story s = new Story();
        s.answers(5, h -> h.price(0, 0)).answers(0, h -> h.price(0, 1000)).answers(1000, h -> h.price(0, 7));
        s.answers(70, h -> h.worth(0, 0)).answers(20, h -> h.price(1, 21)).answers(30, h -> h.price(2, 31));
        s.does(h -> h.pass(3)).answers(7, h -> h.price(0, 9)).answers(9, h -> h.price(0, 8));
        s.answers(70, h -> h.worth(0, 0)).answers(70, h -> h.worth(0, 2)).answers(80, h -> h.worth(0, 3));
        s.refuses(Story.ARGUMENT, h -> h.price(-1, 1)).refuses(Story.ARGUMENT, h -> h.price(3, 1));
        s.refuses(Story.ARGUMENT, h -> h.price(0, -1)).refuses(Story.ARGUMENT, h -> h.price(0, 1001));
        s.refuses(Story.ARGUMENT, h -> h.price(Integer.MAX_VALUE, 1));
        s.answers(8, h -> h.price(0, 8)).answers(21, h -> h.price(1, 1)).answers(31, h -> h.price(2, 1));
    }

    private static void promise4Worth() {
        Story s = new Story().does(h -> h.plot(1, 100, 2), h -> h.pass(10), h -> h.price(2, 1000), h -> h.pass(10));
        s.does(h -> h.price(2, 50), h -> h.pass(1));
        s.answers(3000, h -> h.worth(1, 0)).answers(3000, h -> h.worth(1, 9)).answers(100000, h -> h.worth(1, 10));
        s.answers(100000, h -> h.worth(1, 19)).answers(5000, h -> h.worth(1, 20)).answers(5000, h -> h.worth(1, 21));
        s.refuses(Story.ARGUMENT, h -> h.worth(1, 22)).refuses(Story.ARGUMENT, h -> h.worth(1, -1));
        s.refuses(Story.INDEX, h -> h.worth(36, -1)).refuses(Story.INDEX, h -> h.worth(-1, 0));
        // It is by the AREA and the USE of now, on a day that is gone as well.
        s.does(h -> h.plot(1, 2, 1)).answers(40, h -> h.worth(1, 0)).answers(40, h -> h.worth(1, 10));
        s.changesNothingBy(h -> h.worth(1, 0), h -> h.worth(1, 22), h -> h.market(1), h -> h.plotOf(1, 0));
    }

    private static void promise5Market() {
        Story s = new Story().does(h -> h.scheme(0, 0), h -> h.plot(7, 11, 0)).answers(55, h -> h.market(7));
        s.does(h -> h.draw(0, 7, 1));
        s.answers(38, h -> h.market(7)).answers(45, h -> h.market(1)).answers(45, h -> h.market(13));
        s.answers(45, h -> h.market(6)).answers(45, h -> h.market(8)).answers(50, h -> h.market(0));
        s.answers(50, h -> h.market(14)).answers(50, h -> h.market(9)).answers(50, h -> h.market(19));
        s.refuses(Story.INDEX, h -> h.market(-1)).refuses(Story.INDEX, h -> h.market(36));
        // A PRICE of TODAY counts at once; one that is NEEDED has no gain of one beside it.
        s.does(h -> h.price(0, 9), h -> h.draw(0, 8, 1)).answers(69, h -> h.market(7)).answers(63, h -> h.market(8));
        s.does(h -> h.drop(0)).answers(99, h -> h.market(7)).answers(90, h -> h.market(1));
        s.does(h -> h.plot(9, 40, 1), h -> h.scheme(0, 0), h -> h.draw(1, 10, 1)).answers(720, h -> h.market(9));
        s.does(h -> h.draw(1, 9, 1)).answers(560, h -> h.market(9));
        // The end of a row is not beside the beginning of the next one.
        s = new Story().does(h -> h.scheme(0, 0), h -> h.draw(0, 5, 1), h -> h.draw(0, 30, 1));
        s.answers(50, h -> h.market(6)).answers(45, h -> h.market(4)).answers(45, h -> h.market(11));
        s.answers(50, h -> h.market(29)).answers(45, h -> h.market(24)).answers(45, h -> h.market(31));
        s.answers(50, h -> h.market(35)).answers(50, h -> h.market(0)).answers(35, h -> h.market(30));
    }

    private static void promise5MarketOfWhatWasTaken() {
        Story s = new Story().does(h -> h.scheme(0, 0), h -> h.draw(0, 0, 1), h -> h.draw(0, 1, 1), h -> h.confirm(0));
        s.answers(35, h -> h.market(0)).does(h -> h.enter(0)).answers(50, h -> h.market(0));
        s.answers(35, h -> h.market(1)).answers(45, h -> h.market(6)).does(h -> h.enter(1));
        s.answers(50, h -> h.market(1)).answers(45, h -> h.market(6)).answers(45, h -> h.market(2));
        s.does(h -> h.drop(0)).answers(50, h -> h.market(6)).answers(50, h -> h.market(2));
        s.answers(50, h -> h.market(0));
    }

    private static void promise6PlotOf() {
        Story s = new Story().does(h -> h.plot(9, 12, 2), h -> h.scheme(1, 1), h -> h.scheme(2, 2));
        s.does(h -> h.draw(1, 9, 33)).answers(12, h -> h.plotOf(9, 0)).answers(2, h -> h.plotOf(9, 1));
        s.answers(0, h -> h.plotOf(9, 2)).answers(1, h -> h.plotOf(9, 3)).answers(33, h -> h.plotOf(9, 4));
        s.answers(-1, h -> h.plotOf(9, 5)).answers(0, h -> h.plotOf(9, 6)).answers(-1, h -> h.plotOf(9, 7));
        s.answers(0, h -> h.plotOf(9, 8)).refuses(Story.ARGUMENT, h -> h.plotOf(9, 9));
        s.refuses(Story.ARGUMENT, h -> h.plotOf(9, -1)).refuses(Story.INDEX, h -> h.plotOf(36, 9));
        s.refuses(Story.INDEX, h -> h.plotOf(-1, -1)).refuses(Story.ARGUMENT, h -> h.plotOf(0, Integer.MAX_VALUE));
        // A FREE PLOT keeps nothing of a SCHEME that was DROPPED.
        s.does(h -> h.drop(1)).answers(-1, h -> h.plotOf(9, 3)).answers(0, h -> h.plotOf(9, 4));
    }

    private static void promise6PlotOfWhatWasTaken() {
        Story s = new Story().does(h -> h.plot(9, 12, 2), h -> h.own(9, 4, 50), h -> h.scheme(1, 1), h -> h.draw(0, 9, 33));
        s.does(h -> h.notice(0), h -> h.pass(21), h -> h.confirm(0), h -> h.pass(5), h -> h.enter(9), h -> h.pass(6));
        s.answers(1, h -> h.plotOf(9, 2)).answers(0, h -> h.plotOf(9, 3)).answers(33, h -> h.plotOf(9, 4));
        s.answers(26, h -> h.plotOf(9, 5)).answers(0, h -> h.plotOf(9, 6)).does(h -> h.drop(0));
        s.answers(1, h -> h.plotOf(9, 2)).answers(-1, h -> h.plotOf(9, 3)).answers(33, h -> h.plotOf(9, 4));
        s.answers(26, h -> h.plotOf(9, 5)).answers(0, h -> h.plotOf(9, 7)).answers(118, h -> h.plotOf(9, 8));
        s.does(h -> h.accept(9)).answers(2, h -> h.plotOf(9, 2)).answers(-1, h -> h.plotOf(9, 3));
        s.answers(33, h -> h.plotOf(9, 4)).answers(26, h -> h.plotOf(9, 5)).answers(-1, h -> h.plotOf(9, 7));
        s.answers(0, h -> h.plotOf(9, 8)).answers(0, h -> h.plotOf(9, 6));
        s = new Story().does(h -> h.own(2, 0, 1), h -> h.scheme(0, 0), h -> h.draw(0, 2, 7), h -> h.notice(0));
        s.does(h -> h.pass(21), h -> h.confirm(0), h -> h.enter(2), h -> h.works(2)).answers(1, h -> h.plotOf(2, 6));
        s.does(h -> h.drop(0)).answers(1, h -> h.plotOf(2, 6)).answers(7, h -> h.plotOf(2, 4)).answers(-1, h -> h.plotOf(2, 7));
    }
}
