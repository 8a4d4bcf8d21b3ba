/** The sentences of "INTERESTS", and of the promises 7 to 10. */
final class InterestSentences {
    private InterestSentences() {
    }

    /** So many CHARGES of the PLOT 0. */
    private static Story told(int count) {
        Story s = new Story();
        for (int i = 0; i < count; i++) {
            s.does(h -> h.charge(0, 0, 1));
        }
        return s;
    }

    /** The PLOTS 0 (TAKEN), 1 (BACK) and 2 (TAKEN, and its SCHEME DROPPED) take no INTEREST more. */
    private static Story notFree() {
        return new Story()
                .does(h -> h.scheme(0, 0), h -> h.scheme(0, 0), h -> h.draw(0, 0, 1), h -> h.draw(1, 1, 1),
                        h -> h.draw(1, 2, 1), h -> h.confirm(0), h -> h.confirm(1), h -> h.own(1, 0, 1),
                        h -> h.own(2, 0, 1), h -> h.enter(0), h -> h.enter(1), h -> h.enter(2), h -> h.drop(1),
                        h -> h.accept(1));
    }

    private static void onlyOfFreePlots(Edges.CallWith tell) {
        notFree().refuses(Story.STATE, h -> tell.on(h, 0)).refuses(Story.STATE, h -> tell.on(h, 1))
                .refuses(Story.STATE, h -> tell.on(h, 2)).answers(2, h -> tell.on(h, 3));
        // NEEDED is no hindrance, nor are notices, objections and the confirmation.
        Beginnings.drawn().answers(3, h -> tell.on(h, 0));
        Beginnings.notified().does(h -> h.object(0)).answers(3, h -> tell.on(h, 0));
        Beginnings.confirmed(0, 0, 10, 0, 1).answers(0, h -> tell.on(h, 0));
    }

    private static void atMostTwentyFour(Edges.CallWith tell) {
        new Story().answers(0, h -> tell.on(h, 35));
        told(23).answers(23, h -> tell.on(h, 35)).refuses(Story.STATE, h -> tell.on(h, 35))
                .refuses(Story.STATE, h -> tell.on(h, 0));
    }

    @Sentence(of = "INTERESTS", words = "INTERESTS are numbered from 0, at most 24")
    static void twentyFourInterests() {
        Story s = new Story().refuses(Story.INDEX, h -> h.interestOf(0, 0));
        for (int i = 0; i < 8; i++) {
            int plot = i;
            s.answers(3 * plot, h -> h.own(plot, 0, 100)).answers(3 * plot + 1, h -> h.lease(plot, 1, 1, 1));
            s.answers(3 * plot + 2, h -> h.charge(plot, 2, 1)).refuses(Story.INDEX, h -> h.interestOf(3 * plot + 3, 1));
        }
        s.refuses(Story.STATE, h -> h.own(35, 0, 1)).refuses(Story.STATE, h -> h.lease(35, 0, 1, 1));
        s.refuses(Story.STATE, h -> h.charge(35, 0, 1)).answers(7, h -> h.interestOf(23, 1));
        s.answers(0, h -> h.interestOf(0, 1));
        // Those of land that is BACK keep their numbers.
        s = told(22).does(h -> h.own(1, 0, 1), h -> h.scheme(0, 0), h -> h.draw(0, 1, 1), h -> h.notice(22)).day(21);
        s.does(h -> h.confirm(0), h -> h.enter(1), h -> h.drop(0), h -> h.accept(1)).answers(23, h -> h.own(2, 0, 1));
        s.refuses(Story.STATE, h -> h.own(2, 0, 1));
    }

    @Sentence(of = "INTERESTS", words = "each is of one PLOT and one PERSON, 0 to 9, since the day on which it was told")
    static void ofOnePlotAndOnePersonSinceADay() {
        Story s = new Story().does(h -> h.own(0, 0, 1), h -> h.lease(35, 9, 1, 1)).day(20000).does(h -> h.charge(17, 5, 1));
        s.answers(0, h -> h.interestOf(0, 1)).answers(35, h -> h.interestOf(1, 1)).answers(17, h -> h.interestOf(2, 1));
        s.answers(0, h -> h.interestOf(0, 2)).answers(9, h -> h.interestOf(1, 2)).answers(5, h -> h.interestOf(2, 2));
        s.answers(0, h -> h.interestOf(0, 3)).answers(0, h -> h.interestOf(1, 3)).answers(20000, h -> h.interestOf(2, 3));
    }

    @Sentence(of = "INTERESTS",
            words = "an OWNER with a share in hundredths, a LEASE until a day, with a profit for each day, or a CHARGE of a debt")
    static void ownersLeasesAndCharges() {
        Story s = Beginnings.confirmed(0, 0, 20, 0, 100);
        s.does(h -> h.charge(0, 0, 40), h -> h.lease(0, 0, 2, 9), h -> h.own(0, 0, 50)).answers(2, h -> h.interestOf(0, 0));
        s.answers(1, h -> h.interestOf(1, 0)).answers(0, h -> h.interestOf(2, 0)).answers(40, h -> h.interestOf(0, 4));
        s.answers(2, h -> h.interestOf(1, 4)).answers(50, h -> h.interestOf(2, 4)).does(h -> h.enter(0));
        s.answers(40, h -> h.owed(0)).answers(18, h -> h.owed(1)).answers(30, h -> h.owed(2));
    }

    @Sentence(of = "INTERESTS", words = "The shares of all OWNERS that were told of one PLOT are at most 100, together")
    static void sharesTogether() {
        Story s = new Story().does(h -> h.own(0, 0, 99)).refuses(Story.ARGUMENT, h -> h.own(0, 1, 2));
        s.answers(1, h -> h.own(0, 1, 1)).refuses(Story.ARGUMENT, h -> h.own(0, 1, 1)).answers(2, h -> h.own(1, 1, 100));
        s.refuses(Story.ARGUMENT, h -> h.own(1, 1, 1));
        // A LEASE and a CHARGE have no share, whatever their day and their debt.
        new Story().does(h -> h.lease(0, 0, 60, 1), h -> h.charge(0, 0, 60)).answers(2, h -> h.own(0, 0, 100));
        s = new Story();
        for (int i = 0; i < 23; i++) {
            int number = i;
            s.answers(number, h -> h.own(0, 0, 4));
        }
        s.refuses(Story.ARGUMENT, h -> h.own(0, 0, 9)).answers(23, h -> h.own(0, 0, 8));
        // What was told and notified counts, and what was told before the PLOT was drawn and let go.
        Beginnings.notified().refuses(Story.ARGUMENT, h -> h.own(0, 0, 51)).answers(3, h -> h.own(0, 0, 50));
        s = Beginnings.notified().does(h -> h.drop(0)).refuses(Story.ARGUMENT, h -> h.own(0, 0, 51));
        s.answers(3, h -> h.own(0, 0, 50));
    }

    @Sentence(of = "INTERESTS", words = "what is lacking is that of those who are not found")
    static void whatIsLackingOfTheShares() {
        Beginnings.confirmed(0, 0, 20, 0, 100).does(h -> h.own(0, 0, 99), h -> h.enter(0)).answers(1, h -> h.total(2));
        Beginnings.confirmed(0, 0, 20, 0, 100).does(h -> h.own(0, 0, 100), h -> h.enter(0)).answers(0, h -> h.total(2));
        Beginnings.confirmed(0, 0, 20, 0, 100).does(h -> h.own(0, 0, 1), h -> h.enter(0)).answers(99, h -> h.total(2));
        Beginnings.confirmed(0, 0, 20, 0, 100).does(h -> h.enter(0)).answers(100, h -> h.total(2));
    }

    @Sentence(of = "INTERESTS", words = "A LEASE is over on the day until which it is, and behind it.")
    static void whenALeaseIsOver() {
        // It stops the confirmation, unless it is over.
        Story s = new Story().does(h -> h.lease(0, 0, 30, 1), h -> h.scheme(0, 0), h -> h.draw(0, 0, 1)).day(29);
        s.answers(0, h -> h.whoStops(0)).day(30).answers(-1, h -> h.whoStops(0)).day(31).answers(-1, h -> h.whoStops(0));
        // It has a SUM, unless it is over.
        for (int day = 29; day <= 31; day++) {
            s = Beginnings.confirmed(0, 0, 10, 0, 1).does(h -> h.lease(0, 0, 30, 7)).day(day).does(h -> h.enter(0));
            s.answers(day == 29 ? 7 : 0, h -> h.interestOf(0, 7));
        }
    }

    @Sentence(of = "Promise 7", words = {"@param plot 0 to 35", "@param person 0 to 9",
        "@throws IndexOutOfBoundsException if there is no such PLOT or PERSON"})
    static void ownOfPlotsAndPersons() {
        Edges.hold(Story::new, 0, 35, Story.INDEX, (h, plot) -> h.own(plot, 0, 1));
        Edges.hold(Story::new, 0, 9, Story.INDEX, (h, person) -> h.own(0, person, 1));
    }

    @Sentence(of = "Promise 7", words = {"@param share 1 to 100",
        "@throws IllegalArgumentException if share is out of its range, or all shares of the PLOT would be above 100"})
    static void ownOfAShare() {
        Edges.hold(Story::new, 1, 100, Story.ARGUMENT, (h, share) -> h.own(0, 0, share));
        Edges.hold(() -> new Story().does(h -> h.own(0, 0, 60)), 1, 40, Story.ARGUMENT, (h, share) -> h.own(0, 0, share));
        Edges.refuse(() -> new Story().does(h -> h.own(0, 0, 100)), Story.ARGUMENT, (h, share) -> h.own(0, 0, share), 0, 1,
                100);
    }

    @Sentence(of = "Promise 7", words = {"Tells an OWNER.", "@return the number of the INTEREST",
        "@throws IllegalStateException if there are 24, or the PLOT is not FREE"})
    static void ownOfAFreePlot() {
        onlyOfFreePlots((h, plot) -> h.own(plot, 0, 1));
        atMostTwentyFour((h, plot) -> h.own(plot, 0, 1));
        new Story().does(h -> h.own(0, 0, 1)).answers(Takinghall.OWNER, h -> h.interestOf(0, 0));
    }

    @Sentence(of = "Promise 8", words = {"@param plot 0 to 35", "@param person 0 to 9",
        "@throws IndexOutOfBoundsException if there is no such PLOT or PERSON"})
    static void leaseOfPlotsAndPersons() {
        Edges.hold(Story::new, 0, 35, Story.INDEX, (h, plot) -> h.lease(plot, 0, 1, 1));
        Edges.hold(Story::new, 0, 9, Story.INDEX, (h, person) -> h.lease(0, person, 1, 1));
    }

    @Sentence(of = "Promise 8",
            words = {"@param until a day, above TODAY, 30000 at most", "@throws IllegalArgumentException if until"})
    static void leaseUntilADay() {
        Edges.hold(Story::new, 1, 30000, Story.ARGUMENT, (h, until) -> h.lease(0, 0, until, 1));
        Edges.hold(() -> new Story().day(50), 51, 30000, Story.ARGUMENT, (h, until) -> h.lease(0, 0, until, 1));
        Edges.hold(() -> new Story().day(20000), 20001, 30000, Story.ARGUMENT, (h, until) -> h.lease(0, 0, until, 1));
    }

    @Sentence(of = "Promise 8", words = {"@param profit 0 to 100", "or profit is out of its range"})
    static void leaseOfAProfit() {
        Edges.hold(Story::new, 0, 100, Story.ARGUMENT, (h, profit) -> h.lease(0, 0, 1, profit));
        Beginnings.confirmed(0, 0, 10, 0, 1).does(h -> h.lease(0, 0, 1, 0), h -> h.lease(0, 0, 1, 100), h -> h.enter(0))
                .answers(0, h -> h.interestOf(0, 7)).answers(100, h -> h.interestOf(1, 7));
    }

    @Sentence(of = "Promise 8", words = {"Tells a LEASE.", "@return the number of the INTEREST",
        "@throws IllegalStateException if there are 24, or the PLOT is not FREE"})
    static void leaseOfAFreePlot() {
        onlyOfFreePlots((h, plot) -> h.lease(plot, 0, 1, 1));
        atMostTwentyFour((h, plot) -> h.lease(plot, 0, 1, 1));
        new Story().does(h -> h.lease(0, 0, 1, 1)).answers(Takinghall.LEASE, h -> h.interestOf(0, 0));
    }

    @Sentence(of = "Promise 9", words = {"@param plot 0 to 35", "@param person 0 to 9",
        "@throws IndexOutOfBoundsException if there is no such PLOT or PERSON"})
    static void chargeOfPlotsAndPersons() {
        Edges.hold(Story::new, 0, 35, Story.INDEX, (h, plot) -> h.charge(plot, 0, 1));
        Edges.hold(Story::new, 0, 9, Story.INDEX, (h, person) -> h.charge(0, person, 1));
    }

    @Sentence(of = "Promise 9",
            words = {"@param debt 1 to 100000", "@throws IllegalArgumentException if debt is out of its range"})
    static void chargeOfADebt() {
        Edges.hold(Story::new, 1, 100000, Story.ARGUMENT, (h, debt) -> h.charge(0, 0, debt));
        new Story().does(h -> h.charge(0, 0, 1), h -> h.charge(0, 0, 100000)).answers(1, h -> h.interestOf(0, 4))
                .answers(100000, h -> h.interestOf(1, 4));
    }

    @Sentence(of = "Promise 9", words = {"Tells a CHARGE.", "@return the number of the INTEREST",
        "@throws IllegalStateException if there are 24, or the PLOT is not FREE"})
    static void chargeOfAFreePlot() {
        onlyOfFreePlots((h, plot) -> h.charge(plot, 0, 1));
        atMostTwentyFour((h, plot) -> h.charge(plot, 0, 1));
        new Story().does(h -> h.charge(0, 0, 1)).answers(Takinghall.CHARGE, h -> h.interestOf(0, 0));
    }

    @Sentence(of = "Promise 10",
            words = {"@param interest its number", "@throws IndexOutOfBoundsException if there is no such INTEREST"})
    static void interestOfTheInterests() {
        for (int i = 0; i < 9; i++) {
            int what = i;
            Edges.refuse(Story::new, Story.INDEX, (h, interest) -> h.interestOf(interest, what), 0, 23);
            Edges.hold(Beginnings::drawn, 0, 2, Story.INDEX, (h, interest) -> h.interestOf(interest, what));
            Edges.hold(() -> told(24), 0, 23, Story.INDEX, (h, interest) -> h.interestOf(interest, what));
        }
    }

    @Sentence(of = "Promise 10",
            words = {"Tells of an INTEREST.", "@throws IllegalArgumentException if what is out of its range"})
    static void interestOfOfWhat() {
        Edges.hold(Beginnings::drawn, 0, 8, Story.ARGUMENT, (h, what) -> h.interestOf(0, what));
        Edges.hold(Beginnings::offered, 0, 8, Story.ARGUMENT, (h, what) -> h.interestOf(1, what));
    }

    @Sentence(of = "Promise 10", words = "@param what 0 OWNER to CHARGE, 1 its PLOT, 2 its PERSON, 3 since which day")
    static void interestOfKindPlotPersonAndDay() {
        Story s = new Story().does(h -> h.own(35, 9, 1)).day(1).does(h -> h.lease(0, 0, 2, 1), h -> h.charge(1, 1, 1));
        s.answers(0, h -> h.interestOf(0, 0)).answers(1, h -> h.interestOf(1, 0)).answers(2, h -> h.interestOf(2, 0));
        s.answers(35, h -> h.interestOf(0, 1)).answers(0, h -> h.interestOf(1, 1)).answers(1, h -> h.interestOf(2, 1));
        s.answers(9, h -> h.interestOf(0, 2)).answers(0, h -> h.interestOf(1, 2)).answers(1, h -> h.interestOf(2, 2));
        s.answers(0, h -> h.interestOf(0, 3)).answers(1, h -> h.interestOf(1, 3)).answers(1, h -> h.interestOf(2, 3));
    }

    @Sentence(of = "Promise 10", words = "4 the share, the day until which it is, or the debt")
    static void interestOfShareUntilAndDebt() {
        Story s = new Story();
        s.does(h -> h.own(0, 0, 1), h -> h.own(1, 0, 100), h -> h.lease(0, 0, 1, 99), h -> h.lease(0, 0, 30000, 99));
        s.does(h -> h.charge(0, 0, 1), h -> h.charge(0, 0, 100000)).answers(1, h -> h.interestOf(0, 4));
        s.answers(100, h -> h.interestOf(1, 4)).answers(1, h -> h.interestOf(2, 4)).answers(30000, h -> h.interestOf(3, 4));
        s.answers(1, h -> h.interestOf(4, 4)).answers(100000, h -> h.interestOf(5, 4));
    }

    @Sentence(of = "Promise 10", words = "5 the day of its notice, or NONE, 6 whether it has an OPEN objection, 1 or 0")
    static void interestOfNoticeAndObjection() {
        Story s = Beginnings.drawn().answers(-1, h -> h.interestOf(0, 5)).answers(0, h -> h.interestOf(0, 6));
        s.does(h -> h.notice(0)).answers(0, h -> h.interestOf(0, 5)).answers(0, h -> h.interestOf(0, 6)).day(1);
        s.does(h -> h.object(0)).answers(0, h -> h.interestOf(0, 5)).answers(1, h -> h.interestOf(0, 6));
        s.answers(0, h -> h.interestOf(1, 6)).does(h -> h.hear(0, false)).answers(0, h -> h.interestOf(0, 5));
        s.answers(0, h -> h.interestOf(0, 6)).day(20000).does(h -> h.notice(1)).answers(20000, h -> h.interestOf(1, 5));
        s.answers(-1, h -> h.interestOf(2, 5));
    }

    @Sentence(of = "Promise 10", words = {"7 its SUM, 0 without, 8 what was paid to it, gain with it", "@return as told"})
    static void interestOfSumAndPaid() {
        Story s = Beginnings.confirmed(0, 0, 100, 2, 100).does(h -> h.charge(0, 0, 1000), h -> h.charge(0, 0, 100));
        s.answers(0, h -> h.interestOf(0, 7)).answers(0, h -> h.interestOf(0, 8)).does(h -> h.enter(0));
        s.answers(1000, h -> h.interestOf(0, 7)).answers(0, h -> h.interestOf(0, 8)).does(h -> h.advance(0)).day(365);
        s.answers(1000, h -> h.interestOf(0, 7)).answers(900, h -> h.interestOf(0, 8));
        s.does(h -> h.settle(0), h -> h.settle(1)).answers(1000, h -> h.interestOf(0, 7));
        s.answers(1003, h -> h.interestOf(0, 8)).answers(103, h -> h.interestOf(1, 8)).day(9000);
        s.answers(1003, h -> h.interestOf(0, 8));
    }
}
