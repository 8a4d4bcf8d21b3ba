/** The sentences of "OFFERED", and of the promises 27 and 28. */
final class OfferSentences {
    private OfferSentences() {
    }

    /** The PLOT 0 OFFERED on the day 0, behind a SCHEME that NEEDED a part of it, to OWNERS with these shares. */
    private static Story offered(int part, int... shares) {
        Story s = Beginnings.confirmed(0, 0, 10, 0, part);
        for (int share : shares) {
            s.does(h -> h.own(0, 0, share));
        }
        return s.does(h -> h.enter(0), h -> h.drop(0));
    }

    /** Looks that the PLOT 0 is OFFERED to these INTERESTS, one behind the other, and to nobody then. */
    private static void offeredInTurn(Story s, int... interests) {
        for (int i = 0; i < interests.length; i++) {
            int due = interests[i];
            int next = i + 1 < interests.length ? interests[i + 1] : -1;
            s.answers(due, h -> h.plotOf(0, 7)).answers(next, h -> h.refuse(0));
        }
        s.answers(-1, h -> h.plotOf(0, 7)).refuses(Story.STATE, h -> h.refuse(0));
    }

    /** A PLOT of some WORTH of which a part is NEEDED, and its price when the SCHEME is DROPPED. */
    private static void price(int due, int worth, int part) {
        Story s = new Story();
        s.does(h -> h.plot(0, 1, 0), h -> h.own(0, 0, 1), h -> h.scheme(0, 0), h -> h.draw(0, 0, part), h -> h.notice(0));
        s.day(21).does(h -> h.confirm(0), h -> h.enter(0)).day(22).does(h -> h.price(0, worth)).answers(1, h -> h.drop(0));
        s.answers(due, h -> h.plotOf(0, 8)).answers(due, h -> h.accept(0)).answers(due, h -> h.total(3));
    }

    @Sentence(of = "OFFERED", words = "A PLOT that is OFFERED is so to one of its OWNERS at a time")
    static void offeredToOneAtATime() {
        Story s = offered(100, 50, 50).answers(0, h -> h.plotOf(0, 7)).does(h -> h.accept(0));
        s.answers(-1, h -> h.plotOf(0, 7)).refuses(Story.STATE, h -> h.accept(0)).refuses(Story.STATE, h -> h.refuse(0));
        s.answers(50, h -> h.total(3));
        offered(100, 100).answers(0, h -> h.plotOf(0, 7)).answers(-1, h -> h.refuse(0));
        // To OWNERS alone, and to its own: neither a CHARGE nor a LEASE, nor who has all of another PLOT.
        s = Beginnings.confirmed(0, 0, 10, 0, 1);
        s.does(h -> h.charge(0, 0, 100000), h -> h.lease(0, 0, 900, 9), h -> h.own(1, 0, 100), h -> h.own(0, 0, 1));
        offeredInTurn(s.does(h -> h.enter(0), h -> h.drop(0)), 3);
    }

    @Sentence(of = "OFFERED", words = "the one with the greatest share first, of several the lowest number")
    static void theGreatestShareFirst() {
        offered(100, 49, 51).answers(1, h -> h.plotOf(0, 7));
        offered(100, 51, 49).answers(0, h -> h.plotOf(0, 7));
        offered(100, 50, 50).answers(0, h -> h.plotOf(0, 7));
        offered(100, 1, 2, 30, 30, 30).answers(2, h -> h.plotOf(0, 7));
        offered(100, 1, 1, 1, 1, 1, 1, 1, 1, 1, 1, 1, 1, 1, 1, 1, 1, 1, 1, 1, 1, 1, 1, 1, 2)
                .answers(23, h -> h.plotOf(0, 7));
    }

    @Sentence(of = "OFFERED", words = "then, as each refuses, the next one by that")
    static void theNextAsEachRefuses() {
        offeredInTurn(offered(100, 20, 30, 10, 30), 1, 3, 0, 2);
        offeredInTurn(offered(100, 1, 2, 3), 2, 1, 0);
        offeredInTurn(offered(100, 3, 2, 1), 0, 1, 2);
        offeredInTurn(offered(100, 10, 10, 10, 10), 0, 1, 2, 3);
        offeredInTurn(offered(100, 7), 0);
        int[] all = new int[24];
        for (int i = 0; i < 24; i++) {
            all[i] = i;
        }
        offeredInTurn(offered(100, 4, 4, 4, 4, 4, 4, 4, 4, 4, 4, 4, 4, 4, 4, 4, 4, 4, 4, 4, 4, 4, 4, 4, 4), all);
    }

    @Sentence(of = "OFFERED", words = "The price is the hundredths that were NEEDED of its WORTH as the SCHEME was DROPPED")
    static void thePrice() {
        price(65, 199, 33);
        price(1, 199, 1);
        price(0, 99, 1);
        price(1, 100, 1);
        price(197, 199, 99);
        price(199, 199, 100);
        price(0, 0, 100);
        // By BLIGHT 100 hundredths were NEEDED; by the harm and the rise nothing is changed.
        Beginnings.home(1).day(180).does(h -> h.blight(0)).day(181).does(h -> h.price(1, 30), h -> h.drop(0))
                .answers(300, h -> h.plotOf(0, 8));
        Beginnings.confirmed(50, 0, 10, 0, 50).does(h -> h.own(0, 0, 1), h -> h.enter(0), h -> h.drop(0))
                .answers(25, h -> h.plotOf(0, 8));
        Beginnings.confirmed(0, 0, 100, 2, 100)
                .does(h -> h.price(2, 1000), h -> h.own(0, 0, 1), h -> h.enter(0), h -> h.drop(0))
                .answers(100000, h -> h.accept(0));
    }

    @Sentence(of = "OFFERED", words = "whatever PRICES are told later, on that day too")
    static void thePriceStays() {
        Story s = offered(50, 10, 20).answers(25, h -> h.plotOf(0, 8)).does(h -> h.price(0, 1000));
        s.answers(25, h -> h.plotOf(0, 8)).day(1).does(h -> h.price(0, 0)).answers(25, h -> h.plotOf(0, 8));
        s.does(h -> h.refuse(0)).answers(25, h -> h.plotOf(0, 8)).day(20000).does(h -> h.price(0, 900));
        s.answers(25, h -> h.plotOf(0, 8)).answers(25, h -> h.accept(0)).answers(25, h -> h.total(3));
        // One that was told earlier on that day counts.
        Beginnings.confirmed(0, 0, 10, 0, 50)
                .does(h -> h.own(0, 0, 1), h -> h.enter(0), h -> h.price(0, 7), h -> h.price(0, 9), h -> h.drop(0),
                        h -> h.price(0, 11)).answers(45, h -> h.plotOf(0, 8));
    }

    @Sentence(of = "OFFERED", words = "Who accepts pays that, and the PLOT is BACK")
    static void whoAcceptsPays() {
        Story s = Beginnings.offered().answers(50, h -> h.accept(0)).answers(2, h -> h.plotOf(0, 2));
        s.answers(1, h -> h.plotOf(35, 2)).answers(50, h -> h.total(3)).day(20000).answers(50, h -> h.accept(35));
        s.answers(2, h -> h.plotOf(35, 2)).answers(100, h -> h.total(3)).answers(0, h -> h.total(1));
        offered(1, 1).answers(0, h -> h.accept(0)).answers(2, h -> h.plotOf(0, 2)).answers(0, h -> h.total(3));
        offered(100, 20, 30).does(h -> h.refuse(0)).answers(50, h -> h.accept(0)).answers(2, h -> h.plotOf(0, 2));
    }

    @Sentence(of = "OFFERED", words = "nothing can be told or drawn of it any more")
    static void nothingIsToldOfWhatIsBack() {
        Story s = offered(100, 50).does(h -> h.accept(0), h -> h.scheme(0, 0)).refuses(Story.STATE, h -> h.plot(0, 10, 1));
        s.refuses(Story.STATE, h -> h.own(0, 0, 50)).refuses(Story.STATE, h -> h.lease(0, 0, 1, 1));
        s.refuses(Story.STATE, h -> h.charge(0, 0, 1)).refuses(Story.STATE, h -> h.draw(1, 0, 1));
        s.refuses(Story.STATE, h -> h.notice(0)).refuses(Story.STATE, h -> h.enter(0)).refuses(Story.STATE, h -> h.works(0));
        s.refuses(Story.STATE, h -> h.blight(0)).day(20000).refuses(Story.STATE, h -> h.draw(1, 0, 1));
        s.refuses(Story.STATE, h -> h.plot(0, 10, 1)).answers(2, h -> h.plotOf(0, 2));
    }

    @Sentence(of = "OFFERED", words = "and it is not OFFERED any more")
    static void whatIsBackIsNotOffered() {
        Story s = offered(100, 20, 30).does(h -> h.accept(0)).answers(-1, h -> h.plotOf(0, 7));
        s.answers(0, h -> h.plotOf(0, 8)).refuses(Story.STATE, h -> h.accept(0)).refuses(Story.STATE, h -> h.refuse(0));
        s.day(1).refuses(Story.STATE, h -> h.accept(0));
        Beginnings.offered().does(h -> h.accept(0)).answers(1, h -> h.plotOf(35, 7)).answers(50, h -> h.plotOf(35, 8));
    }

    @Sentence(of = "OFFERED", words = "A PLOT without OWNERS is not OFFERED")
    static void withoutOwnersNotOffered() {
        Story s = Beginnings.confirmed(0, 0, 10, 0, 1);
        s.does(h -> h.charge(0, 0, 1), h -> h.lease(0, 0, 1, 1), h -> h.own(1, 0, 1), h -> h.enter(0));
        s.answers(0, h -> h.drop(0)).answers(-1, h -> h.plotOf(0, 7)).answers(0, h -> h.plotOf(0, 8));
        s.answers(1, h -> h.plotOf(0, 2)).refuses(Story.STATE, h -> h.accept(0)).refuses(Story.STATE, h -> h.refuse(0));
        offered(100).answers(-1, h -> h.plotOf(0, 7)).answers(1, h -> h.plotOf(0, 2));
    }

    @Sentence(of = "OFFERED", words = "nor is one any more that all have refused: it stays TAKEN")
    static void allHaveRefused() {
        Story s = offered(100, 20, 30).does(h -> h.refuse(0)).answers(1, h -> h.plotOf(0, 2)).answers(-1, h -> h.refuse(0));
        s.answers(1, h -> h.plotOf(0, 2)).answers(-1, h -> h.plotOf(0, 7)).answers(0, h -> h.plotOf(0, 8));
        s.refuses(Story.STATE, h -> h.accept(0)).refuses(Story.STATE, h -> h.refuse(0)).day(20000);
        s.answers(1, h -> h.plotOf(0, 2)).answers(100, h -> h.plotOf(0, 4)).answers(0, h -> h.total(3));
        Beginnings.offered().does(h -> h.refuse(0)).answers(1, h -> h.plotOf(35, 7)).answers(50, h -> h.accept(35));
    }

    @Sentence(of = "Promise 27",
            words = {"@param plot 0 to 35", "@throws IndexOutOfBoundsException if there is no such PLOT"})
    static void refuseOfThePlots() {
        Edges.hold(Beginnings::offered, 0, 35, Story.INDEX, (h, plot) -> h.refuse(plot));
    }

    @Sentence(of = "Promise 27",
            words = {"Refuses the offer of a PLOT.", "@return the INTEREST to which it is OFFERED then, or NONE"})
    static void refuseReturnsTheNext() {
        offered(100, 20, 30, 40).answers(1, h -> h.refuse(0)).answers(0, h -> h.refuse(0)).answers(-1, h -> h.refuse(0));
        Beginnings.offered().answers(-1, h -> h.refuse(35)).answers(-1, h -> h.refuse(0));
    }

    @Sentence(of = "Promise 27", words = "@throws IllegalStateException if it is not OFFERED")
    static void refuseRefuses() {
        Beginnings.taken().refuses(Story.STATE, h -> h.refuse(0)).refuses(Story.STATE, h -> h.refuse(1))
                .does(h -> h.works(0), h -> h.drop(0)).refuses(Story.STATE, h -> h.refuse(0)).does(h -> h.accept(35))
                .refuses(Story.STATE, h -> h.refuse(35));
        Beginnings.drawn().refuses(Story.STATE, h -> h.refuse(0)).does(h -> h.drop(0))
                .refuses(Story.STATE, h -> h.refuse(0));
    }

    @Sentence(of = "Promise 28",
            words = {"@param plot 0 to 35", "@throws IndexOutOfBoundsException if there is no such PLOT"})
    static void acceptOfThePlots() {
        Edges.hold(Beginnings::offered, 0, 35, Story.INDEX, (h, plot) -> h.accept(plot));
    }

    @Sentence(of = "Promise 28", words = {"Accepts the offer of a PLOT.", "@return what is paid for it"})
    static void acceptReturnsWhatIsPaid() {
        price(33, 33, 100);
        offered(33, 100).answers(16, h -> h.accept(0)).answers(16, h -> h.total(3));
        offered(33, 1, 99).does(h -> h.refuse(0)).answers(16, h -> h.accept(0));
    }

    @Sentence(of = "Promise 28", words = "@throws IllegalStateException if it is not OFFERED")
    static void acceptRefuses() {
        Beginnings.taken().refuses(Story.STATE, h -> h.accept(0)).refuses(Story.STATE, h -> h.accept(1))
                .does(h -> h.works(0), h -> h.drop(0)).refuses(Story.STATE, h -> h.accept(0)).does(h -> h.accept(35))
                .refuses(Story.STATE, h -> h.accept(35));
        Beginnings.offered().does(h -> h.refuse(0)).refuses(Story.STATE, h -> h.accept(0));
        Beginnings.drawn().refuses(Story.STATE, h -> h.accept(0)).does(h -> h.drop(0))
                .refuses(Story.STATE, h -> h.accept(0));
    }
}
