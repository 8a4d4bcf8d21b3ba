/** Promises 27 and 28. */
final class OfferTests {
    private OfferTests() {
    }

    static void all() {
        promise27Refuse();
        promise27RefuseRefuses();
        promise28Accept();
        promise28AcceptRefuses();
        promise28PriceOfTheOffer();
    }

    /** Four OWNERS of the PLOT 3, two of them with the greatest share, and one of the PLOT 4. */
    private static Story offered() {
        return new Story().does(h -> h.own(3, 0, 20), h -> h.own(4, 0, 99), h -> h.own(3, 1, 30), h -> h.charge(3, 2, 1000),
                h -> h.own(3, 3, 10), h -> h.own(3, 4, 30), h -> h.scheme(50, 50), h -> h.draw(0, 3, 30),
                h -> h.notice(0), h -> h.notice(2), h -> h.notice(3), h -> h.notice(4), h -> h.notice(5), h -> h.pass(21),
                h -> h.confirm(0), h -> h.enter(3));
    }

    private static void promise27Refuse() {
        Story s = offered().answers(-1, h -> h.plotOf(3, 7)).answers(1, h -> h.drop(0)).answers(2, h -> h.plotOf(3, 7));
        s.answers(15, h -> h.plotOf(3, 8)).answers(5, h -> h.refuse(3)).answers(5, h -> h.plotOf(3, 7));
        s.answers(15, h -> h.plotOf(3, 8)).does(h -> h.pass(9)).answers(0, h -> h.refuse(3)).answers(4, h -> h.refuse(3));
        s.answers(4, h -> h.plotOf(3, 7)).answers(-1, h -> h.refuse(3)).answers(-1, h -> h.plotOf(3, 7));
        s.answers(0, h -> h.plotOf(3, 8)).answers(1, h -> h.plotOf(3, 2)).refuses(Story.STATE, h -> h.refuse(3));
        s.refuses(Story.STATE, h -> h.accept(3)).answers(0, h -> h.total(3)).answers(30, h -> h.plotOf(3, 4));
    }

    private static void promise27RefuseRefuses() {
        Story s = offered().refuses(Story.STATE, h -> h.refuse(3)).refuses(Story.INDEX, h -> h.refuse(-1));
        s.refuses(Story.INDEX, h -> h.refuse(36)).does(h -> h.works(3), h -> h.drop(0)).refuses(Story.STATE, h -> h.refuse(3));
        s = offered().does(h -> h.drop(0), h -> h.accept(3)).refuses(Story.STATE, h -> h.refuse(3));
        s.refuses(Story.STATE, h -> h.refuse(0));
    }

    private static void promise28Accept() {
        Story s = offered().does(h -> h.plot(5, 10, 1), h -> h.own(5, 0, 100), h -> h.scheme(0, 0), h -> h.draw(1, 5, 50));
        s.does(h -> h.notice(6), h -> h.pass(21), h -> h.confirm(1), h -> h.enter(5), h -> h.drop(0), h -> h.refuse(3));
        s.answers(15, h -> h.accept(3)).answers(2, h -> h.plotOf(3, 2)).answers(-1, h -> h.plotOf(3, 7));
        s.answers(0, h -> h.plotOf(3, 8)).answers(15, h -> h.total(3)).answers(30, h -> h.plotOf(3, 4));
        s.answers(21, h -> h.plotOf(3, 5)).does(h -> h.drop(1)).answers(100, h -> h.accept(5)).answers(115, h -> h.total(3));
        // What is OWED stays, and nothing of what accepts is paid counts as paid to INTERESTS.
        s.answers(0, h -> h.total(1)).answers(1, h -> h.creditors(0)).answers(1, h -> h.creditors(2)).answers(50, h -> h.market(3));
    }

    private static void promise28AcceptRefuses() {
        Story s = offered().refuses(Story.STATE, h -> h.accept(3)).refuses(Story.INDEX, h -> h.accept(-1));
        s.refuses(Story.INDEX, h -> h.accept(36)).refuses(Story.STATE, h -> h.accept(0)).does(h -> h.drop(0), h -> h.accept(3));
        s.refuses(Story.STATE, h -> h.accept(3)).refuses(Story.STATE, h -> h.plot(3, 1, 1));
        // A PLOT without OWNERS is not OFFERED.
        s = new Story().does(h -> h.charge(0, 0, 9), h -> h.scheme(0, 0), h -> h.draw(0, 0, 1), h -> h.notice(0), h -> h.pass(21));
        s.does(h -> h.confirm(0), h -> h.enter(0)).answers(0, h -> h.drop(0)).refuses(Story.STATE, h -> h.accept(0));
        s.refuses(Story.STATE, h -> h.refuse(0)).answers(1, h -> h.plotOf(0, 2));
    }

    private static void promise28PriceOfTheOffer() {
        // By the WORTH as the SCHEME was DROPPED: not of the VALUE DAY, nor told later on that day.
        Story s = offered().does(h -> h.price(0, 9), h -> h.pass(4), h -> h.price(0, 7), h -> h.price(0, 11), h -> h.drop(0));
        s.does(h -> h.price(0, 100)).answers(33, h -> h.plotOf(3, 8)).does(h -> h.pass(1), h -> h.price(0, 200), h -> h.refuse(3));
        s.answers(33, h -> h.plotOf(3, 8)).answers(33, h -> h.accept(3)).answers(33, h -> h.total(3));
        // An offer for nothing is one, too.
        s = offered().does(h -> h.price(0, 0)).answers(1, h -> h.drop(0)).answers(2, h -> h.plotOf(3, 7));
        s.answers(0, h -> h.plotOf(3, 8)).answers(0, h -> h.accept(3)).answers(2, h -> h.plotOf(3, 2));
    }
}
