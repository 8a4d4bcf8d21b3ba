/** The sentences of "PLOTS", and of the promises 1 to 6. */
final class PlotSentences {
    private PlotSentences() {
    }

    /** The PLOT 0 with an AREA of 1 and a PRICE of 1 for each unit of it. */
    private static Story smallest() {
        return new Story().does(h -> h.plot(0, 1, 0), h -> h.price(0, 1), h -> h.scheme(0, 0));
    }

    private static Story largest() {
        return new Story().does(h -> h.plot(0, 100, 0), h -> h.price(0, 1000), h -> h.scheme(0, 0));
    }

    @Sentence(of = "PLOTS",
            words = "There are the PLOTS 0 to 35 in six rows of six: the PLOT 6 times the row and the column")
    static void thirtySixPlotsInSixRows() {
        Edges.hold(Story::new, 0, 35, Story.INDEX, (h, plot) -> h.plotOf(plot, 0));
        // The last of the row 0 and the first of the row 1 are next by number alone.
        new Story().does(h -> h.scheme(0, 0), h -> h.draw(0, 5, 1)).answers(50, h -> h.market(6))
                .answers(45, h -> h.market(11));
        new Story().does(h -> h.scheme(0, 0), h -> h.draw(0, 30, 1)).answers(50, h -> h.market(29))
                .answers(45, h -> h.market(24));
    }

    @Sentence(of = "PLOTS",
            words = "Beside a PLOT are those next to it in its row and, in its column, in the rows next to its own.")
    static void whatIsBesideEachPlot() {
        for (int i = 0; i < 36; i++) {
            int needed = i;
            Story s = new Story().does(h -> h.scheme(0, 0), h -> h.draw(0, needed, 1));
            for (int k = 0; k < 36; k++) {
                int other = k;
                int steps = Math.abs(needed / 6 - other / 6) + Math.abs(needed % 6 - other % 6);
                s.answers(steps == 0 ? 35 : steps == 1 ? 45 : 50, h -> h.market(other));
            }
        }
    }

    @Sentence(of = "PLOTS", words = "A PLOT has an AREA, 10 at first, and a USE, FIELD at first.")
    static void areaAndUseAtFirst() {
        Story s = new Story();
        for (int i = 0; i < 36; i++) {
            int plot = i;
            s.answers(10, h -> h.plotOf(plot, 0)).answers(0, h -> h.plotOf(plot, 1)).answers(50, h -> h.worth(plot, 0));
        }
    }

    @Sentence(of = "PLOTS", words = "It is FREE at first, then perhaps TAKEN, with WORKS or without, and then perhaps BACK.")
    static void fromFreeToTakenToBack() {
        Story s = Beginnings.confirmed(0, 0, 10, 0, 100).does(h -> h.scheme(0, 0), h -> h.draw(1, 1, 1), h -> h.confirm(1));
        s.does(h -> h.own(0, 0, 1), h -> h.own(1, 0, 1)).answers(0, h -> h.plotOf(0, 2)).answers(0, h -> h.plotOf(35, 2));
        s.does(h -> h.enter(0), h -> h.enter(1), h -> h.works(1)).answers(1, h -> h.plotOf(0, 2));
        s.answers(1, h -> h.plotOf(1, 2)).answers(0, h -> h.plotOf(0, 6)).answers(1, h -> h.plotOf(1, 6));
        s.does(h -> h.drop(0), h -> h.drop(1)).answers(1, h -> h.plotOf(0, 2)).answers(1, h -> h.plotOf(1, 2));
        s.does(h -> h.accept(0)).answers(2, h -> h.plotOf(0, 2)).refuses(Story.STATE, h -> h.accept(1)).day(20000);
        s.answers(2, h -> h.plotOf(0, 2)).answers(1, h -> h.plotOf(1, 2));
    }

    @Sentence(of = "PLOTS",
            words = "For each USE there is a PRICE of a unit of AREA: 5 for FIELD, 20 for HOME, 30 for SHOP, at first.")
    static void pricesAtFirst() {
        Story s = new Story().does(h -> h.plot(0, 1, 0), h -> h.plot(1, 1, 1), h -> h.plot(2, 1, 2));
        s.answers(5, h -> h.worth(0, 0)).answers(20, h -> h.worth(1, 0)).answers(30, h -> h.worth(2, 0)).day(20000);
        s.answers(5, h -> h.worth(0, 0)).answers(20, h -> h.worth(1, 0)).answers(30, h -> h.worth(2, 0));
        s.answers(5, h -> h.worth(0, 20000)).answers(20, h -> h.worth(1, 20000)).answers(30, h -> h.worth(2, 20000));
    }

    @Sentence(of = "PLOTS", words = "A PRICE that is told holds from TODAY on")
    static void aPriceHoldsFromTodayOn() {
        Story s = new Story().does(h -> h.plot(0, 1, 0), h -> h.plot(1, 1, 1), h -> h.price(0, 6));
        s.answers(6, h -> h.worth(0, 0)).day(10).does(h -> h.price(0, 7)).day(11).does(h -> h.price(0, 8)).day(20000);
        s.does(h -> h.price(0, 9)).answers(6, h -> h.worth(0, 0)).answers(6, h -> h.worth(0, 9));
        s.answers(7, h -> h.worth(0, 10)).answers(8, h -> h.worth(0, 11)).answers(8, h -> h.worth(0, 12));
        s.answers(8, h -> h.worth(0, 19999)).answers(9, h -> h.worth(0, 20000)).answers(20, h -> h.worth(1, 10));
        s.answers(20, h -> h.worth(1, 20000));
    }

    @Sentence(of = "PLOTS", words = "of several of one USE and day the last")
    static void theLastPriceOfADay() {
        Story s = new Story().does(h -> h.plot(0, 1, 2), h -> h.price(2, 6), h -> h.price(2, 7));
        s.answers(7, h -> h.worth(0, 0)).day(1);
        s.does(h -> h.price(2, 8), h -> h.price(2, 9), h -> h.price(1, 500), h -> h.price(2, 4)).day(2);
        s.answers(7, h -> h.worth(0, 0)).answers(4, h -> h.worth(0, 1)).answers(4, h -> h.worth(0, 2));
    }

    @Sentence(of = "PLOTS", words = "The WORTH of a PLOT on a day is its AREA times the PRICE of its USE on that day.")
    static void worthIsAreaTimesPrice() {
        smallest().answers(1, h -> h.worth(0, 0)).does(h -> h.price(0, 0)).answers(0, h -> h.worth(0, 0));
        largest().answers(100000, h -> h.worth(0, 0)).does(h -> h.plot(0, 99, 0)).answers(99000, h -> h.worth(0, 0));
        new Story().does(h -> h.plot(0, 7, 1), h -> h.price(1, 11), h -> h.price(0, 13)).answers(77, h -> h.worth(0, 0));
    }

    @Sentence(of = "PLOTS", words = "is 70 hundredths of its WORTH if a SCHEME NEEDS it and it is FREE")
    static void marketOfWhatIsNeededAndFree() {
        Story s = smallest().does(h -> h.draw(0, 0, 1)).answers(0, h -> h.market(0)).does(h -> h.price(0, 2));
        s.answers(1, h -> h.market(0)).does(h -> h.price(0, 9)).answers(6, h -> h.market(0)).does(h -> h.price(0, 10));
        s.answers(7, h -> h.market(0)).does(h -> h.draw(0, 1, 1)).answers(7, h -> h.market(0)).does(h -> h.confirm(0));
        s.answers(7, h -> h.market(0)).day(5).does(h -> h.price(0, 0)).answers(0, h -> h.market(0));
        s.does(h -> h.price(0, 10)).does(h -> h.enter(0)).answers(10, h -> h.market(0)).answers(70, h -> h.market(1));
        s.does(h -> h.drop(0)).answers(10, h -> h.market(0)).answers(100, h -> h.market(1));
        largest().does(h -> h.draw(0, 0, 100)).answers(70000, h -> h.market(0));
    }

    @Sentence(of = "PLOTS", words = "otherwise 90 hundredths if it is FREE and one beside it is NEEDED")
    static void marketBesideWhatIsNeeded() {
        Story s = smallest().does(h -> h.draw(0, 6, 1)).answers(0, h -> h.market(0)).does(h -> h.price(0, 2));
        s.answers(1, h -> h.market(0)).does(h -> h.price(0, 10)).answers(9, h -> h.market(0)).does(h -> h.price(0, 11));
        s.answers(9, h -> h.market(0)).does(h -> h.confirm(0)).answers(9, h -> h.market(0));
        // One that is TAKEN is NEEDED still, until its SCHEME is DROPPED.
        s.does(h -> h.enter(6)).answers(9, h -> h.market(0)).does(h -> h.drop(0)).answers(11, h -> h.market(0));
        largest().does(h -> h.draw(0, 1, 100)).answers(90000, h -> h.market(0));
    }

    @Sentence(of = "PLOTS", words = "otherwise its WORTH")
    static void marketOtherwise() {
        Story s = smallest().does(h -> h.own(0, 0, 1), h -> h.price(0, 10)).answers(10, h -> h.market(0));
        s.answers(100, h -> h.market(1));
        // TAKEN, and BACK, though one beside it is NEEDED.
        s.does(h -> h.draw(0, 0, 1), h -> h.notice(0)).day(21).does(h -> h.confirm(0), h -> h.enter(0), h -> h.scheme(0, 0));
        s.does(h -> h.draw(1, 1, 1)).answers(10, h -> h.market(0)).does(h -> h.drop(0)).answers(10, h -> h.market(0));
        s.does(h -> h.accept(0)).answers(10, h -> h.market(0)).does(h -> h.price(0, 12)).answers(12, h -> h.market(0));
    }

    @Sentence(of = "Promise 1", words = "Begins without INTERESTS and SCHEMES, on the day 0.")
    static void aNewObject() {
        Story s = new Story().answers(0, h -> h.today());
        for (int i = 0; i < 24; i++) {
            int interest = i;
            s.refuses(Story.INDEX, h -> h.interestOf(interest, 0)).refuses(Story.INDEX, h -> h.schemeOf(interest, 0));
        }
        for (int i = 0; i < 36; i++) {
            int plot = i;
            s.answers(-1, h -> h.plotOf(plot, 3)).answers(-1, h -> h.plotOf(plot, 5)).answers(-1, h -> h.plotOf(plot, 7));
        }
        for (int i = 0; i < 5; i++) {
            int what = i;
            s.answers(0, h -> h.total(what)).answers(0, h -> h.creditors(what)).answers(0, h -> h.creditors(5 + what));
        }
        s.answers(0, h -> h.own(0, 0, 100)).answers(0, h -> h.scheme(0, 0));
    }

    @Sentence(of = "Promise 2",
            words = {"@param plot 0 to 35", "@throws IndexOutOfBoundsException if there is no such PLOT"})
    static void plotOfThePlots() {
        Edges.hold(Story::new, 0, 35, Story.INDEX, (h, plot) -> h.plot(plot, 1, 1));
    }

    @Sentence(of = "Promise 2", words = {"@param area 1 to 100", "@throws IllegalArgumentException if area"})
    static void plotOfAnArea() {
        Edges.hold(Story::new, 1, 100, Story.ARGUMENT, (h, area) -> h.plot(0, area, 1));
    }

    @Sentence(of = "Promise 2", words = {"@param use FIELD to SHOP", "or use is out of its range"})
    static void plotOfAUse() {
        Edges.hold(Story::new, 0, 2, Story.ARGUMENT, (h, use) -> h.plot(0, 1, use));
        new Story().does(h -> h.plot(0, 1, 2)).answers(2, h -> h.plotOf(0, 1)).does(h -> h.plot(0, 1, 0))
                .answers(0, h -> h.plotOf(0, 1));
    }

    @Sentence(of = "Promise 2", words = {"Tells a PLOT.", "@return its AREA before"})
    static void plotReturnsTheAreaBefore() {
        new Story().answers(10, h -> h.plot(0, 100, 1)).answers(100, h -> h.plot(0, 1, 1)).answers(1, h -> h.plot(0, 1, 2))
                .answers(1, h -> h.plot(0, 10, 0)).answers(10, h -> h.plot(1, 5, 0)).answers(10, h -> h.plotOf(0, 0));
    }

    @Sentence(of = "Promise 2", words = "@throws IllegalStateException if it is not FREE, or NEEDED")
    static void plotOnlyIfFreeAndNotNeeded() {
        Story s = Beginnings.drawn().refuses(Story.STATE, h -> h.plot(0, 20, 1)).answers(10, h -> h.plot(1, 20, 1));
        s.does(h -> h.notice(0), h -> h.object(0), h -> h.hear(0, true)).answers(10, h -> h.plot(0, 30, 1));
        // TAKEN and not NEEDED any more; and BACK.
        s = Beginnings.taken().refuses(Story.STATE, h -> h.plot(0, 20, 1)).does(h -> h.drop(0));
        s.refuses(Story.STATE, h -> h.plot(0, 20, 1)).does(h -> h.accept(0)).refuses(Story.STATE, h -> h.plot(0, 20, 1));
        s = Beginnings.confirmed(0, 0, 10, 0, 1).refuses(Story.STATE, h -> h.plot(0, 20, 1)).does(h -> h.drop(0));
        s.answers(10, h -> h.plot(0, 20, 1));
    }

    @Sentence(of = "Promise 3", words = {"@param use FIELD to SHOP", "@throws IllegalArgumentException if use"})
    static void priceOfAUse() {
        Edges.hold(Story::new, 0, 2, Story.ARGUMENT, (h, use) -> h.price(use, 1));
    }

    @Sentence(of = "Promise 3", words = {"@param cents 0 to 1000", "cents is out of its range"})
    static void priceOfCents() {
        Edges.hold(Story::new, 0, 1000, Story.ARGUMENT, (h, cents) -> h.price(0, cents));
        Edges.hold(Story::new, 0, 1000, Story.ARGUMENT, (h, cents) -> h.price(2, cents));
    }

    @Sentence(of = "Promise 3", words = {"Tells a PRICE from TODAY on.", "@return the PRICE ahead of that, TODAY"})
    static void priceReturnsTheOneAheadOfIt() {
        Story s = new Story().answers(5, h -> h.price(0, 0)).answers(0, h -> h.price(0, 1000));
        s.answers(1000, h -> h.price(0, 1)).answers(20, h -> h.price(1, 2)).answers(30, h -> h.price(2, 3)).day(1);
        s.answers(1, h -> h.price(0, 4)).day(20000).answers(4, h -> h.price(0, 5)).answers(5, h -> h.price(0, 6));
        s.answers(2, h -> h.price(1, 9)).answers(3, h -> h.price(2, 9));
    }

    @Sentence(of = "Promise 4",
            words = {"@param plot 0 to 35", "@throws IndexOutOfBoundsException if there is no such PLOT"})
    static void worthOfThePlots() {
        Edges.hold(Story::new, 0, 35, Story.INDEX, (h, plot) -> h.worth(plot, 0));
    }

    @Sentence(of = "Promise 4",
            words = {"@param day 0 to TODAY", "@throws IllegalArgumentException if day is out of its range"})
    static void worthOnADay() {
        Edges.hold(Story::new, 0, 0, Story.ARGUMENT, (h, day) -> h.worth(0, day));
        Edges.hold(() -> new Story().day(1), 0, 1, Story.ARGUMENT, (h, day) -> h.worth(0, day));
        Edges.hold(() -> new Story().day(20000), 0, 20000, Story.ARGUMENT, (h, day) -> h.worth(0, day));
    }

    @Sentence(of = "Promise 4", words = {"Returns a WORTH, by the AREA and USE of now.", "@return the cents"})
    static void worthByTheAreaAndUseOfNow() {
        Story s = new Story().does(h -> h.plot(0, 2, 0)).day(3).does(h -> h.price(1, 21), h -> h.plot(0, 5, 1)).day(4);
        s.answers(100, h -> h.worth(0, 0)).answers(100, h -> h.worth(0, 2)).answers(105, h -> h.worth(0, 3));
        s.answers(105, h -> h.worth(0, 4));
        // Of what is TAKEN as well.
        s.does(h -> h.scheme(0, 0), h -> h.draw(0, 0, 1), h -> h.confirm(0), h -> h.enter(0)).day(5);
        s.does(h -> h.price(1, 40)).day(6).answers(105, h -> h.worth(0, 4)).answers(200, h -> h.worth(0, 5));
        s.answers(200, h -> h.worth(0, 6));
    }

    @Sentence(of = "Promise 5",
            words = {"@param plot 0 to 35", "@throws IndexOutOfBoundsException if there is no such PLOT"})
    static void marketOfThePlots() {
        Edges.hold(Story::new, 0, 35, Story.INDEX, (h, plot) -> h.market(plot));
    }

    @Sentence(of = "Promise 5", words = {"Returns a MARKET, TODAY.", "@return the cents"})
    static void marketOfToday() {
        Story s = new Story().day(7).does(h -> h.price(0, 10)).answers(100, h -> h.market(0)).day(8);
        s.answers(100, h -> h.market(0)).does(h -> h.price(0, 3)).answers(30, h -> h.market(0));
        s.answers(100, h -> h.worth(0, 7)).answers(50, h -> h.worth(0, 6));
    }

    @Sentence(of = "Promise 6",
            words = {"@param plot 0 to 35", "@throws IndexOutOfBoundsException if there is no such PLOT"})
    static void plotOfOfThePlots() {
        for (int i = 0; i < 9; i++) {
            int what = i;
            Edges.hold(Story::new, 0, 35, Story.INDEX, (h, plot) -> h.plotOf(plot, what));
        }
    }

    @Sentence(of = "Promise 6", words = {"Tells of a PLOT.", "@throws IllegalArgumentException if what is out of its range"})
    static void plotOfOfWhat() {
        Edges.hold(Story::new, 0, 8, Story.ARGUMENT, (h, what) -> h.plotOf(0, what));
        Edges.hold(Beginnings::offered, 0, 8, Story.ARGUMENT, (h, what) -> h.plotOf(0, what));
    }

    @Sentence(of = "Promise 6", words = "@param what 0 its AREA, 1 its USE, 2 FREE to BACK")
    static void plotOfAreaUseAndState() {
        Story s = new Story().does(h -> h.plot(0, 1, 2), h -> h.plot(35, 100, 1)).answers(1, h -> h.plotOf(0, 0));
        s.answers(2, h -> h.plotOf(0, 1)).answers(0, h -> h.plotOf(0, 2)).answers(100, h -> h.plotOf(35, 0));
        s.answers(1, h -> h.plotOf(35, 1)).answers(10, h -> h.plotOf(1, 0));
        s = Beginnings.taken().answers(1, h -> h.plotOf(0, 2)).answers(0, h -> h.plotOf(1, 2));
        s.does(h -> h.drop(0), h -> h.accept(0)).answers(2, h -> h.plotOf(0, 2)).answers(1, h -> h.plotOf(35, 2));
    }

    @Sentence(of = "Promise 6", words = "3 the SCHEME that NEEDS it, or NONE")
    static void plotOfNeeder() {
        Story s = new Story().does(h -> h.scheme(0, 0), h -> h.scheme(0, 0), h -> h.scheme(0, 0), h -> h.scheme(0, 0));
        s.answers(-1, h -> h.plotOf(0, 3)).does(h -> h.draw(0, 0, 1), h -> h.draw(3, 1, 1)).answers(0, h -> h.plotOf(0, 3));
        s.answers(3, h -> h.plotOf(1, 3)).does(h -> h.confirm(0), h -> h.enter(0)).answers(0, h -> h.plotOf(0, 3));
        s.does(h -> h.drop(0), h -> h.drop(3)).answers(-1, h -> h.plotOf(0, 3)).answers(-1, h -> h.plotOf(1, 3));
    }

    @Sentence(of = "Promise 6",
            words = "4 the hundredths that are NEEDED, or were as its SCHEME was DROPPED, if it is not FREE, 0 without")
    static void plotOfHundredths() {
        Story s = new Story().does(h -> h.own(0, 0, 1), h -> h.scheme(0, 0)).answers(0, h -> h.plotOf(0, 4));
        s.does(h -> h.draw(0, 0, 1), h -> h.draw(0, 1, 100)).answers(1, h -> h.plotOf(0, 4));
        s.answers(100, h -> h.plotOf(1, 4)).does(h -> h.notice(0)).day(21);
        s.does(h -> h.confirm(0), h -> h.enter(0), h -> h.drop(0)).answers(1, h -> h.plotOf(0, 4));
        s.answers(0, h -> h.plotOf(1, 4)).does(h -> h.accept(0)).answers(1, h -> h.plotOf(0, 4));
        Beginnings.notified().does(h -> h.object(0), h -> h.hear(0, true)).answers(0, h -> h.plotOf(0, 4));
        Beginnings.home(3).day(180).does(h -> h.blight(0)).answers(100, h -> h.plotOf(0, 4)).does(h -> h.drop(0))
                .answers(100, h -> h.plotOf(0, 4));
    }

    @Sentence(of = "Promise 6", words = "5 its VALUE DAY, NONE if it never was TAKEN")
    static void plotOfValueDay() {
        Story s = Beginnings.confirmed(0, 0, 10, 0, 1).answers(-1, h -> h.plotOf(0, 5)).does(h -> h.enter(0));
        s.answers(0, h -> h.plotOf(0, 5)).day(20000).answers(0, h -> h.plotOf(0, 5)).answers(-1, h -> h.plotOf(1, 5));
        s = new Story().does(h -> h.own(0, 0, 1), h -> h.scheme(0, 0), h -> h.draw(0, 0, 1), h -> h.notice(0)).day(19999);
        s.does(h -> h.confirm(0)).day(20000).does(h -> h.enter(0)).answers(20000, h -> h.plotOf(0, 5)).does(h -> h.drop(0));
        s.answers(20000, h -> h.plotOf(0, 5)).does(h -> h.accept(0)).answers(20000, h -> h.plotOf(0, 5));
    }

    @Sentence(of = "Promise 6", words = "6 whether it has WORKS, 1 or 0")
    static void plotOfWorks() {
        Story s = Beginnings.taken().answers(0, h -> h.plotOf(0, 6)).does(h -> h.works(0)).answers(1, h -> h.plotOf(0, 6));
        s.answers(0, h -> h.plotOf(35, 6)).does(h -> h.drop(0)).answers(1, h -> h.plotOf(0, 6));
        s.answers(0, h -> h.plotOf(35, 6));
    }

    @Sentence(of = "Promise 6",
            words = {"7 the INTEREST to which it is OFFERED, or NONE, 8 the price of that, 0 without an offer",
        "@return as told"})
    static void plotOfOffer() {
        Story s = Beginnings.taken().answers(-1, h -> h.plotOf(0, 7)).answers(0, h -> h.plotOf(0, 8)).does(h -> h.drop(0));
        s.answers(0, h -> h.plotOf(0, 7)).answers(50, h -> h.plotOf(0, 8)).answers(1, h -> h.plotOf(35, 7));
        s.answers(50, h -> h.plotOf(35, 8)).does(h -> h.accept(0), h -> h.refuse(35)).answers(-1, h -> h.plotOf(0, 7));
        s.answers(0, h -> h.plotOf(0, 8)).answers(-1, h -> h.plotOf(35, 7)).answers(0, h -> h.plotOf(35, 8));
    }
}
