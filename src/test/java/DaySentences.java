/** The sentences of the promises 29 to 32. */
final class DaySentences {
    private DaySentences() {
    }

    /** On two PLOTS, TAKEN on the day 0: SUMS of 60 and 30 and a COURT's 10; a SUM of 25 and a COURT's 25. */
    private static Story twoTaken() {
        return new Story()
                .does(h -> h.plot(0, 20, 0), h -> h.scheme(0, 0), h -> h.draw(0, 0, 100), h -> h.draw(0, 1, 100),
                        h -> h.confirm(0), h -> h.charge(0, 9, 60), h -> h.own(0, 0, 75), h -> h.own(1, 0, 50),
                        h -> h.enter(0), h -> h.enter(1));
    }

    @Sentence(of = "Promise 29",
            words = {"@param days 1 to 1000", "@throws IllegalArgumentException if days is out of its range"})
    static void passOfDays() {
        Edges.hold(Story::new, 1, 1000, Story.ARGUMENT, (h, days) -> h.pass(days));
        Edges.hold(() -> new Story().day(19000), 1, 1000, Story.ARGUMENT, (h, days) -> h.pass(days));
        Edges.refuse(() -> new Story().day(20000), Story.ARGUMENT, (h, days) -> h.pass(days), 0, 1001, Integer.MAX_VALUE,
                Integer.MIN_VALUE);
    }

    @Sentence(of = "Promise 29", words = {"Lets days pass.", "@return TODAY then"})
    static void passReturnsToday() {
        new Story().answers(1, h -> h.pass(1)).answers(1001, h -> h.pass(1000)).answers(1002, h -> h.pass(1))
                .answers(1002, h -> h.today());
        new Story().day(19999).answers(20000, h -> h.pass(1)).answers(20000, h -> h.today());
    }

    @Sentence(of = "Promise 29", words = "@throws IllegalStateException if it would be above 20000")
    static void passNotAboveTheLastDay() {
        new Story().day(19000).answers(20000, h -> h.pass(1000)).refuses(Story.STATE, h -> h.pass(1))
                .refuses(Story.STATE, h -> h.pass(1000));
        new Story().day(19001).refuses(Story.STATE, h -> h.pass(1000)).answers(20000, h -> h.pass(999));
        new Story().day(19998).refuses(Story.STATE, h -> h.pass(3)).answers(19999, h -> h.pass(1))
                .refuses(Story.STATE, h -> h.pass(2)).answers(20000, h -> h.pass(1));
    }

    @Sentence(of = "Promise 30", words = "Returns TODAY.")
    static void todayIsTheDay() {
        new Story().answers(0, h -> h.today()).day(1).answers(1, h -> h.today()).refuses(Story.ARGUMENT, h -> h.pass(0))
                .answers(1, h -> h.today()).day(20000).answers(20000, h -> h.today()).refuses(Story.STATE, h -> h.pass(1))
                .answers(20000, h -> h.today());
    }

    @Sentence(of = "Promise 31",
            words = {"Returns a sum.", "@return the cents", "@throws IllegalArgumentException if what is out of its range"})
    static void totalOfWhat() {
        Edges.hold(Story::new, 0, 4, Story.ARGUMENT, (h, what) -> h.total(what));
        Edges.hold(DaySentences::twoTaken, 0, 4, Story.ARGUMENT, (h, what) -> h.total(what));
    }

    @Sentence(of = "Promise 31", words = "@param what 0 all SUMS that were fixed")
    static void totalOfSums() {
        Story s = new Story().answers(0, h -> h.total(0));
        s = twoTaken().answers(115, h -> h.total(0)).does(h -> h.settle(0), h -> h.advance(1)).answers(115, h -> h.total(0));
        s.does(h -> h.drop(0)).does(h -> h.accept(0)).day(900).answers(115, h -> h.total(0));
        Beginnings.notified().day(21).does(h -> h.confirm(0)).answers(0, h -> h.total(0)).does(h -> h.enter(0))
                .answers(49, h -> h.total(0));
        // More than the LAND: the tenth of a HOME and the profit of a LEASE are SUMS as well.
        Beginnings.confirmed(0, 0, 10, 1, 100).does(h -> h.own(0, 0, 100), h -> h.lease(0, 0, 30000, 100)).day(365)
                .does(h -> h.enter(0)).answers(73220, h -> h.total(0));
    }

    @Sentence(of = "Promise 31", words = "1 all that was paid to INTERESTS, gain with it")
    static void totalOfPayments() {
        Story s = twoTaken().answers(0, h -> h.total(1)).does(h -> h.advance(0)).answers(54, h -> h.total(1)).day(3650);
        s.does(h -> h.settle(0)).answers(61, h -> h.total(1)).does(h -> h.settle(1)).answers(100, h -> h.total(1));
        s.does(h -> h.drop(0), h -> h.accept(0)).answers(100, h -> h.total(1)).does(h -> h.settle(2));
        s.answers(132, h -> h.total(1));
    }

    @Sentence(of = "Promise 31", words = "2 what the COURT has")
    static void totalOfTheCourt() {
        Story s = twoTaken().answers(35, h -> h.total(2)).does(h -> h.settle(1), h -> h.drop(0), h -> h.accept(1)).day(9);
        s.answers(35, h -> h.total(2));
        new Story().answers(0, h -> h.total(2));
        Beginnings.confirmed(0, 0, 10, 0, 100).answers(0, h -> h.total(2)).does(h -> h.enter(0))
                .answers(50, h -> h.total(2));
    }

    @Sentence(of = "Promise 31", words = "3 all that was paid for PLOTS that are BACK")
    static void totalOfOffers() {
        Story s = twoTaken().answers(0, h -> h.total(3)).does(h -> h.drop(0)).answers(0, h -> h.total(3));
        s.does(h -> h.accept(0)).answers(100, h -> h.total(3)).does(h -> h.price(0, 1000), h -> h.accept(1));
        s.answers(150, h -> h.total(3));
        twoTaken().does(h -> h.drop(0), h -> h.refuse(0), h -> h.accept(1)).answers(50, h -> h.total(3));
    }

    @Sentence(of = "Promise 31", words = "4 the LAND of all PLOTS that were TAKEN, together")
    static void totalOfLand() {
        Story s = twoTaken().answers(150, h -> h.total(4)).does(h -> h.drop(0)).answers(150, h -> h.total(4));
        s.does(h -> h.accept(0), h -> h.refuse(1)).day(5).does(h -> h.price(0, 1000)).answers(150, h -> h.total(4));
        Beginnings.confirmed(0, 0, 10, 0, 100).answers(0, h -> h.total(4)).does(h -> h.enter(0))
                .answers(50, h -> h.total(4));
        Beginnings.confirmed(10, 0, 20, 0, 50).does(h -> h.enter(0)).answers(55, h -> h.total(4));
        Beginnings.home(1).day(180).does(h -> h.blight(0)).answers(200, h -> h.total(4));
        // The greatest: 36 PLOTS of 100000 cents.
        s = new Story().does(h -> h.price(0, 1000), h -> h.scheme(0, 0));
        for (int i = 0; i < 36; i++) {
            int plot = i;
            s.does(h -> h.plot(plot, 100, 0), h -> h.draw(0, plot, 100));
        }
        s.does(h -> h.confirm(0));
        for (int i = 0; i < 36; i++) {
            int plot = i;
            s.does(h -> h.enter(plot));
        }
        s.answers(3600000, h -> h.total(4)).answers(3600000, h -> h.total(2));
    }

    @Sentence(of = "Promise 32",
            words = {"@param person 0 to 9", "@throws IndexOutOfBoundsException if there is no such PERSON"})
    static void creditorsOfThePersons() {
        Edges.hold(Story::new, 0, 9, Story.INDEX, (h, person) -> h.creditors(person));
        Edges.hold(DaySentences::twoTaken, 0, 9, Story.INDEX, (h, person) -> h.creditors(person));
    }

    @Sentence(of = "Promise 32",
            words = {"Counts the INTERESTS of a PERSON to whom something is OWED, TODAY.", "@return how many"})
    static void creditorsCount() {
        Story s = twoTaken().answers(2, h -> h.creditors(0)).answers(1, h -> h.creditors(9)).answers(0, h -> h.creditors(1));
        s.does(h -> h.advance(0)).answers(1, h -> h.creditors(9)).does(h -> h.settle(0), h -> h.settle(1));
        s.answers(0, h -> h.creditors(9)).answers(1, h -> h.creditors(0)).day(20000).answers(0, h -> h.creditors(9));
        s.answers(1, h -> h.creditors(0)).does(h -> h.drop(0), h -> h.accept(1)).answers(1, h -> h.creditors(0));
        Beginnings.notified().answers(0, h -> h.creditors(1)).answers(0, h -> h.creditors(2))
                .answers(0, h -> h.creditors(3));
        // A SUM of 1 counts, also behind an advance of 0; one of 0 never does, as that of a LEASE that is over.
        s = Beginnings.confirmed(0, 0, 10, 0, 1);
        s.does(h -> h.lease(0, 4, 2, 1), h -> h.lease(0, 4, 2, 1), h -> h.lease(0, 4, 1, 1)).day(1).does(h -> h.enter(0));
        s.answers(2, h -> h.creditors(4)).does(h -> h.advance(0), h -> h.advance(2)).answers(2, h -> h.creditors(4));
        s.does(h -> h.settle(0)).answers(1, h -> h.creditors(4)).day(20000).answers(1, h -> h.creditors(4));
        s = Beginnings.confirmed(0, 0, 10, 0, 100);
        for (int i = 0; i < 24; i++) {
            s.does(h -> h.charge(0, 9, 1));
        }
        s.answers(0, h -> h.creditors(9)).does(h -> h.enter(0)).answers(24, h -> h.creditors(9)).does(h -> h.settle(23));
        s.answers(23, h -> h.creditors(9));
    }
}
