/** The sentences of "SCHEMES", and of the promises 11 to 19. */
final class SchemeSentences {
    private SchemeSentences() {
    }

    private static Story schemes(int count) {
        Story s = new Story();
        for (int i = 0; i < count; i++) {
            s.does(h -> h.scheme(0, 0));
        }
        return s;
    }

    /** The PLOT 0 TAKEN by BLIGHT for a DRAFT on the day 180; its OWNERS 0 and 1 were notified, and 0 objected. */
    private static Story blighted() {
        return Beginnings.home(5).does(h -> h.own(0, 2, 50)).day(180)
                .does(h -> h.notice(0), h -> h.object(0), h -> h.notice(1), h -> h.blight(1));
    }

    /** A DRAFT that NEEDS all PLOTS, of which 24 have an OWNER each, who was notified on the day 0. */
    private static Story widest() {
        Story s = schemes(1);
        for (int i = 0; i < 36; i++) {
            int plot = i;
            s.answers(plot + 1, h -> h.draw(0, plot, 100));
        }
        for (int i = 0; i < 24; i++) {
            int number = i;
            s.answers(number, h -> h.own(35 - number, 0, 100)).answers(0, h -> h.notice(number));
        }
        return s;
    }

    private static void edgesOfInterests(Edges.CallWith call, Story.Call... beginning) {
        Edges.refuse(Story::new, Story.INDEX, call, 0);
        Edges.hold(() -> Beginnings.drawn().does(beginning), 0, 2, Story.INDEX, call);
        Edges.refuse(() -> widest(), Story.INDEX, call, -1, 24);
    }

    private static void edgesOfSchemes(Edges.CallWith call) {
        Edges.refuse(Story::new, Story.INDEX, call, 0);
        Edges.hold(() -> schemes(1).does(h -> h.draw(0, 0, 1)), 0, 0, Story.INDEX, call);
        Edges.hold(() -> schemes(4).does(h -> h.draw(0, 0, 1), h -> h.draw(3, 3, 1)), 0, 3, Story.INDEX, call);
    }

    @Sentence(of = "SCHEMES", words = "SCHEMES are numbered from 0, at most 4")
    static void fourSchemes() {
        Story s = new Story().refuses(Story.INDEX, h -> h.schemeOf(0, 0));
        for (int i = 0; i < 4; i++) {
            int number = i;
            s.answers(number, h -> h.scheme(0, 0)).refuses(Story.INDEX, h -> h.schemeOf(number + 1, 0));
        }
        s.refuses(Story.STATE, h -> h.scheme(0, 0)).does(h -> h.drop(0), h -> h.drop(3));
        s.refuses(Story.STATE, h -> h.scheme(0, 0));
    }

    @Sentence(of = "SCHEMES",
            words = "a DRAFT at first, then perhaps CONFIRMED, then perhaps DROPPED (a DRAFT can be DROPPED, too)")
    static void fromDraftToDropped() {
        Story s = schemes(2).does(h -> h.draw(1, 0, 1)).answers(0, h -> h.schemeOf(0, 0)).answers(0, h -> h.schemeOf(1, 0));
        s.does(h -> h.confirm(1)).answers(1, h -> h.schemeOf(1, 0)).refuses(Story.STATE, h -> h.confirm(1));
        s.does(h -> h.drop(1)).answers(2, h -> h.schemeOf(1, 0)).refuses(Story.STATE, h -> h.confirm(1));
        s.refuses(Story.STATE, h -> h.drop(1)).answers(0, h -> h.drop(0)).answers(2, h -> h.schemeOf(0, 0));
        s.refuses(Story.STATE, h -> h.drop(0));
    }

    @Sentence(of = "SCHEMES", words = "A SCHEME has a harm and a rise, both in hundredths.")
    static void harmAndRise() {
        Beginnings.confirmed(7, 0, 20, 0, 50).answers(53, h -> h.enter(0));
        Beginnings.confirmed(0, 7, 20, 0, 50).answers(47, h -> h.enter(0));
        Beginnings.confirmed(30, 7, 20, 0, 50).answers(62, h -> h.enter(0));
    }

    @Sentence(of = "SCHEMES", words = "It NEEDS PLOTS that were drawn, of each a part in hundredths")
    static void plotsThatAreNeeded() {
        Story s = schemes(2).does(h -> h.draw(1, 0, 1), h -> h.draw(1, 35, 100)).answers(1, h -> h.plotOf(0, 3));
        s.answers(1, h -> h.plotOf(35, 3)).answers(-1, h -> h.plotOf(1, 3)).answers(1, h -> h.plotOf(0, 4));
        s.answers(100, h -> h.plotOf(35, 4)).answers(0, h -> h.schemeOf(0, 1)).answers(2, h -> h.schemeOf(1, 1));
        s.refuses(Story.STATE, h -> h.confirm(0));
        widest().answers(36, h -> h.schemeOf(0, 1));
    }

    @Sentence(of = "SCHEMES", words = "a PLOT is NEEDED by one SCHEME at most")
    static void neededByOneSchemeAtMost() {
        Story s = schemes(2).does(h -> h.draw(0, 0, 9)).refuses(Story.STATE, h -> h.draw(0, 0, 9));
        s.refuses(Story.STATE, h -> h.draw(1, 0, 9)).answers(0, h -> h.plotOf(0, 3)).does(h -> h.drop(0));
        s.answers(1, h -> h.draw(1, 0, 8)).answers(1, h -> h.plotOf(0, 3));
    }

    @Sentence(of = "SCHEMES", words = "a TAKEN one still by that for which it was TAKEN, until it is DROPPED")
    static void takenOnesAreNeededStill() {
        Story s = Beginnings.taken().answers(0, h -> h.plotOf(0, 3)).answers(2, h -> h.schemeOf(0, 1));
        s.answers(45, h -> h.market(1)).does(h -> h.scheme(0, 0)).refuses(Story.STATE, h -> h.draw(1, 0, 1));
        s.does(h -> h.drop(0)).answers(-1, h -> h.plotOf(0, 3)).answers(0, h -> h.schemeOf(0, 1));
        s.answers(50, h -> h.market(1)).refuses(Story.STATE, h -> h.draw(1, 0, 1));
        blighted().answers(0, h -> h.plotOf(0, 3)).does(h -> h.drop(0)).answers(-1, h -> h.plotOf(0, 3));
    }

    @Sentence(of = "SCHEMES", words = "An INTEREST is notified of the SCHEME that NEEDS its PLOT, once.")
    static void notifiedOnce() {
        Story s = schemes(4).does(h -> h.own(0, 0, 1), h -> h.own(0, 0, 1), h -> h.draw(3, 0, 1));
        s.answers(3, h -> h.notice(0)).refuses(Story.STATE, h -> h.notice(0)).day(22).refuses(Story.STATE, h -> h.notice(0));
        s.answers(3, h -> h.notice(1)).day(20000).refuses(Story.STATE, h -> h.notice(0)).answers(0, h -> h.interestOf(0, 5));
        s.answers(22, h -> h.interestOf(1, 5));
    }

    @Sentence(of = "SCHEMES", words = "In the 21 days behind the notice, or on its day, it can object, once")
    static void objectedInTwentyOneDays() {
        Beginnings.notified().answers(1, h -> h.object(0)).refuses(Story.STATE, h -> h.object(0));
        Beginnings.notified().day(1).answers(1, h -> h.object(0)).refuses(Story.STATE, h -> h.object(0));
        Beginnings.notified().day(20).answers(1, h -> h.object(0)).answers(2, h -> h.object(1))
                .refuses(Story.STATE, h -> h.object(1));
        Beginnings.notified().day(21).answers(1, h -> h.object(0)).answers(2, h -> h.object(2))
                .refuses(Story.STATE, h -> h.object(2));
        Beginnings.notified().day(22).refuses(Story.STATE, h -> h.object(0)).refuses(Story.STATE, h -> h.object(1)).day(23)
                .refuses(Story.STATE, h -> h.object(2)).day(20000).refuses(Story.STATE, h -> h.object(0));
        Beginnings.drawn().day(19979).does(h -> h.notice(0)).day(20000).answers(1, h -> h.object(0));
    }

    @Sentence(of = "SCHEMES", words = "the objection is OPEN until it is heard")
    static void openUntilItIsHeard() {
        Story s = Beginnings.notified().does(h -> h.object(0), h -> h.object(2)).answers(1, h -> h.interestOf(0, 6));
        s.day(500).answers(1, h -> h.interestOf(0, 6)).refuses(Story.STATE, h -> h.confirm(0));
        s.answers(1, h -> h.hear(0, false)).answers(0, h -> h.interestOf(0, 6)).answers(1, h -> h.interestOf(2, 6));
        s.refuses(Story.STATE, h -> h.hear(0, false));
    }

    @Sentence(of = "SCHEMES",
            words = "if it is upheld, the PLOT is not NEEDED any more, and all notices and objections of its INTERESTS are gone, as if there had been none")
    static void upheld() {
        Story s = Beginnings.notified().does(h -> h.own(1, 0, 9), h -> h.draw(0, 1, 1), h -> h.notice(3), h -> h.object(3));
        s.does(h -> h.object(0), h -> h.object(1), h -> h.object(2), h -> h.hear(1, false)).answers(1, h -> h.hear(2, true));
        for (int i = 0; i < 3; i++) {
            int interest = i;
            s.answers(-1, h -> h.interestOf(interest, 5)).answers(0, h -> h.interestOf(interest, 6));
            s.refuses(Story.STATE, h -> h.object(interest)).refuses(Story.STATE, h -> h.hear(interest, true));
            s.refuses(Story.STATE, h -> h.notice(interest));
        }
        s.answers(-1, h -> h.plotOf(0, 3)).answers(0, h -> h.plotOf(0, 4)).answers(0, h -> h.plotOf(0, 2));
        s.answers(1, h -> h.schemeOf(0, 1));
        // Not so those of another PLOT.
        s.answers(0, h -> h.plotOf(1, 3)).answers(0, h -> h.interestOf(3, 5)).answers(1, h -> h.interestOf(3, 6));
    }

    @Sentence(of = "SCHEMES", words = "(they can be notified and object anew, if the PLOT is drawn again)")
    static void notifiedAndObjectingAnew() {
        Story s = Beginnings.notified();
        s.does(h -> h.object(0), h -> h.hear(0, false), h -> h.object(1), h -> h.hear(1, true)).day(40);
        s.does(h -> h.scheme(0, 0), h -> h.draw(1, 0, 9)).refuses(Story.STATE, h -> h.object(0));
        s.answers(1, h -> h.notice(0)).answers(1, h -> h.notice(1)).answers(40, h -> h.interestOf(0, 5)).day(61);
        s.answers(1, h -> h.object(0)).answers(2, h -> h.object(1)).refuses(Story.STATE, h -> h.object(0));
        s.answers(0, h -> h.hear(0, true));
        // By the same SCHEME, too.
        s.does(h -> h.draw(0, 0, 9)).answers(0, h -> h.notice(0)).answers(1, h -> h.object(0));
        s.answers(0, h -> h.hear(0, false));
    }

    @Sentence(of = "SCHEMES", words = "otherwise that objection is closed, and the notice stays")
    static void notUpheld() {
        Story s = Beginnings.notified().day(3).does(h -> h.object(0), h -> h.object(1)).answers(1, h -> h.hear(0, false));
        s.answers(0, h -> h.interestOf(0, 5)).answers(0, h -> h.interestOf(0, 6)).answers(1, h -> h.interestOf(1, 6));
        s.answers(0, h -> h.plotOf(0, 3)).answers(40, h -> h.plotOf(0, 4)).refuses(Story.STATE, h -> h.notice(0));
        s.refuses(Story.STATE, h -> h.object(0)).refuses(Story.STATE, h -> h.hear(0, true)).does(h -> h.hear(1, false));
        s.day(21).answers(1, h -> h.confirm(0));
    }

    @Sentence(of = "SCHEMES", words = "A SCHEME can be CONFIRMED, if it is a DRAFT and NEEDS a PLOT that is FREE")
    static void confirmedIfADraftNeedsAFreePlot() {
        schemes(1).refuses(Story.STATE, h -> h.confirm(0)).does(h -> h.draw(0, 0, 1)).answers(1, h -> h.confirm(0))
                .refuses(Story.STATE, h -> h.confirm(0)).does(h -> h.drop(0)).refuses(Story.STATE, h -> h.confirm(0));
        schemes(2).does(h -> h.draw(0, 0, 1)).refuses(Story.STATE, h -> h.confirm(1)).does(h -> h.drop(0))
                .refuses(Story.STATE, h -> h.confirm(0));
        // A PLOT that is TAKEN is not enough; one that is FREE beside it is, whatever is with the TAKEN one.
        blighted().day(201).refuses(Story.STATE, h -> h.confirm(0)).does(h -> h.draw(0, 1, 1)).answers(1, h -> h.confirm(0));
        widest().day(21).answers(36, h -> h.confirm(0));
    }

    @Sentence(of = "SCHEMES", words = "each INTEREST of its FREE PLOTS was notified 21 days ago or earlier")
    static void notifiedTwentyOneDaysAgo() {
        Story s = Beginnings.notified().refuses(Story.STATE, h -> h.confirm(0)).day(20);
        s.refuses(Story.STATE, h -> h.confirm(0)).answers(0, h -> h.whoStops(0)).day(21).answers(-1, h -> h.whoStops(0));
        s.answers(1, h -> h.confirm(0));
        Beginnings.notified().day(22).answers(-1, h -> h.whoStops(0)).answers(1, h -> h.confirm(0));
        // Each of them: all but one, of each kind.
        for (int i = 0; i < 3; i++) {
            int last = i;
            s = Beginnings.drawn().does(h -> h.notice((last + 1) % 3), h -> h.notice((last + 2) % 3)).day(1);
            s.does(h -> h.notice(last)).day(21).answers(last, h -> h.whoStops(0)).refuses(Story.STATE, h -> h.confirm(0));
            s.day(22).answers(-1, h -> h.whoStops(0)).answers(1, h -> h.confirm(0));
        }
        // Not those of other PLOTS, nor those of PLOTS that are not FREE any more.
        Beginnings.notified().does(h -> h.own(1, 0, 1), h -> h.scheme(0, 0), h -> h.draw(1, 1, 1)).day(21)
                .answers(1, h -> h.confirm(0)).refuses(Story.STATE, h -> h.confirm(1));
        Beginnings.home(5).does(h -> h.own(0, 2, 50), h -> h.draw(0, 1, 5)).day(180).does(h -> h.blight(0))
                .answers(1, h -> h.confirm(0));
    }

    @Sentence(of = "SCHEMES", words = "and has no OPEN objection")
    static void confirmedWithoutOpenObjection() {
        for (int i = 0; i < 3; i++) {
            int interest = i;
            Story s = Beginnings.notified().does(h -> h.object(interest)).day(21).refuses(Story.STATE, h -> h.confirm(0));
            s.day(25).answers(interest, h -> h.whoStops(0)).refuses(Story.STATE, h -> h.confirm(0));
            s.does(h -> h.hear(interest, false)).answers(-1, h -> h.whoStops(0)).answers(1, h -> h.confirm(0));
        }
    }

    @Sentence(of = "SCHEMES", words = "a LEASE that is over does not count for that")
    static void leasesThatAreOverDoNotStop() {
        // One that was not notified, one that was notified lately, one that has an OPEN objection.
        Story s = Beginnings.drawn().does(h -> h.notice(0), h -> h.notice(2)).day(29).answers(1, h -> h.whoStops(0));
        s.refuses(Story.STATE, h -> h.confirm(0)).day(30).answers(-1, h -> h.whoStops(0)).answers(1, h -> h.confirm(0));
        s = Beginnings.drawn().does(h -> h.notice(0), h -> h.notice(2)).day(29).does(h -> h.notice(1));
        s.refuses(Story.STATE, h -> h.confirm(0)).day(30).answers(1, h -> h.confirm(0));
        s = Beginnings.notified().does(h -> h.object(1)).day(29).refuses(Story.STATE, h -> h.confirm(0));
        s.answers(1, h -> h.whoStops(0)).day(30).answers(-1, h -> h.whoStops(0)).answers(1, h -> h.confirm(0));
        // An OWNER and a CHARGE count, however small their share and debt.
        s = Beginnings.drawn().does(h -> h.notice(1)).day(500).answers(0, h -> h.whoStops(0)).does(h -> h.notice(0));
        s.day(521).answers(2, h -> h.whoStops(0)).refuses(Story.STATE, h -> h.confirm(0));
    }

    @Sentence(of = "SCHEMES", words = "When a SCHEME is DROPPED, none of its PLOTS is NEEDED any more")
    static void noneIsNeededBehindADrop() {
        Story s = Beginnings.taken();
        s.does(h -> h.works(35), h -> h.scheme(0, 0), h -> h.draw(1, 1, 1), h -> h.draw(1, 6, 1), h -> h.confirm(1));
        s.does(h -> h.scheme(0, 0), h -> h.draw(2, 7, 1), h -> h.drop(0)).answers(-1, h -> h.plotOf(0, 3));
        s.answers(-1, h -> h.plotOf(35, 3)).answers(1, h -> h.plotOf(1, 3)).answers(1, h -> h.plotOf(6, 3));
        s.does(h -> h.drop(1)).answers(-1, h -> h.plotOf(1, 3)).answers(-1, h -> h.plotOf(6, 3));
        s.answers(0, h -> h.plotOf(6, 4)).answers(2, h -> h.plotOf(7, 3)).answers(0, h -> h.schemeOf(0, 1));
        widest().does(h -> h.drop(0)).answers(0, h -> h.schemeOf(0, 1)).answers(-1, h -> h.plotOf(0, 3))
                .answers(-1, h -> h.plotOf(35, 3));
    }

    @Sentence(of = "SCHEMES", words = "of those that are FREE the notices and objections are gone")
    static void noticesOfFreePlotsAreGone() {
        Story s = Beginnings.notified().does(h -> h.object(0), h -> h.object(1), h -> h.hear(1, false), h -> h.scheme(0, 0));
        s.does(h -> h.own(1, 0, 1), h -> h.draw(1, 1, 1), h -> h.notice(3), h -> h.object(3), h -> h.drop(0));
        s.answers(-1, h -> h.interestOf(0, 5)).answers(0, h -> h.interestOf(0, 6)).answers(-1, h -> h.interestOf(1, 5));
        s.answers(-1, h -> h.interestOf(2, 5)).answers(0, h -> h.interestOf(3, 5)).answers(1, h -> h.interestOf(3, 6));
        s.does(h -> h.draw(1, 0, 1)).answers(1, h -> h.notice(0)).answers(2, h -> h.object(0)).answers(1, h -> h.notice(1));
        s.answers(3, h -> h.object(1));
        // Behind the confirmation, too.
        s = Beginnings.notified().day(21).does(h -> h.confirm(0), h -> h.drop(0)).answers(-1, h -> h.interestOf(0, 5));
        s.answers(-1, h -> h.interestOf(2, 5));
    }

    @Sentence(of = "SCHEMES", words = "those of TAKEN ones stay told")
    static void noticesOfTakenPlotsStay() {
        blighted().does(h -> h.drop(0)).answers(180, h -> h.interestOf(0, 5)).answers(1, h -> h.interestOf(0, 6))
                .answers(180, h -> h.interestOf(1, 5)).answers(0, h -> h.interestOf(1, 6));
        Story s = Beginnings.notified().does(h -> h.object(1)).day(30);
        s.does(h -> h.confirm(0), h -> h.enter(0), h -> h.drop(0)).answers(0, h -> h.interestOf(0, 5));
        s.answers(0, h -> h.interestOf(1, 5)).answers(1, h -> h.interestOf(1, 6)).does(h -> h.accept(0));
        s.answers(0, h -> h.interestOf(0, 5)).answers(1, h -> h.interestOf(1, 6));
    }

    @Sentence(of = "SCHEMES", words = "each TAKEN one without WORKS is OFFERED to its OWNERS")
    static void takenOnesWithoutWorksAreOffered() {
        Story s = Beginnings.taken().does(h -> h.works(35)).answers(-1, h -> h.plotOf(0, 7)).answers(1, h -> h.drop(0));
        s.answers(0, h -> h.plotOf(0, 7)).answers(-1, h -> h.plotOf(35, 7)).answers(0, h -> h.plotOf(35, 8));
        s.refuses(Story.STATE, h -> h.accept(35));
        Beginnings.notified().answers(0, h -> h.drop(0)).answers(-1, h -> h.plotOf(0, 7));
        Beginnings.confirmed(0, 0, 10, 0, 1).does(h -> h.own(0, 0, 1)).answers(0, h -> h.drop(0))
                .answers(-1, h -> h.plotOf(0, 7));
        blighted().answers(1, h -> h.drop(0)).answers(0, h -> h.plotOf(0, 7));
    }

    @Sentence(of = "Promise 11", words = {"@param harm 0 to 50", "@throws IllegalArgumentException if harm"})
    static void schemeOfAHarm() {
        Edges.hold(Story::new, 0, 50, Story.ARGUMENT, (h, harm) -> h.scheme(harm, 0));
        Edges.hold(Story::new, 0, 50, Story.ARGUMENT, (h, harm) -> h.scheme(harm, 50));
    }

    @Sentence(of = "Promise 11", words = {"@param rise 0 to 50", "or rise is out of its range"})
    static void schemeOfARise() {
        Edges.hold(Story::new, 0, 50, Story.ARGUMENT, (h, rise) -> h.scheme(0, rise));
        Edges.hold(Story::new, 0, 50, Story.ARGUMENT, (h, rise) -> h.scheme(50, rise));
    }

    @Sentence(of = "Promise 11",
            words = {"Tells a SCHEME.", "@return its number", "@throws IllegalStateException if there are 4"})
    static void schemeOfANumber() {
        schemes(3).answers(3, h -> h.scheme(50, 50)).refuses(Story.STATE, h -> h.scheme(0, 0)).does(h -> h.drop(0))
                .refuses(Story.STATE, h -> h.scheme(50, 50));
        new Story().answers(0, h -> h.scheme(0, 0)).does(h -> h.drop(0)).answers(1, h -> h.scheme(0, 0));
    }

    @Sentence(of = "Promise 12", words = {"@param scheme its number", "@param plot 0 to 35",
        "@throws IndexOutOfBoundsException if there is no such SCHEME or PLOT"})
    static void drawOfSchemesAndPlots() {
        Edges.refuse(Story::new, Story.INDEX, (h, scheme) -> h.draw(scheme, 0, 1), 0);
        Edges.hold(() -> schemes(1), 0, 0, Story.INDEX, (h, scheme) -> h.draw(scheme, 0, 1));
        Edges.hold(() -> schemes(4), 0, 3, Story.INDEX, (h, scheme) -> h.draw(scheme, 0, 1));
        Edges.hold(() -> schemes(1), 0, 35, Story.INDEX, (h, plot) -> h.draw(0, plot, 1));
    }

    @Sentence(of = "Promise 12",
            words = {"@param part 1 to 100 hundredths", "@throws IllegalArgumentException if part is out of its range"})
    static void drawOfAPart() {
        Edges.hold(() -> schemes(1), 1, 100, Story.ARGUMENT, (h, part) -> h.draw(0, 0, part));
    }

    @Sentence(of = "Promise 12", words = {"Draws a PLOT into a SCHEME.", "@return how many PLOTS the SCHEME NEEDS then"})
    static void drawCounts() {
        Story s = schemes(2).answers(1, h -> h.draw(0, 0, 1)).answers(1, h -> h.draw(1, 1, 1));
        s.answers(2, h -> h.draw(0, 2, 1)).does(h -> h.drop(1)).answers(3, h -> h.draw(0, 1, 1));
        widest().answers(36, h -> h.schemeOf(0, 1));
        blighted().answers(2, h -> h.draw(0, 1, 1));
    }

    @Sentence(of = "Promise 12",
            words = "@throws IllegalStateException if the SCHEME is no DRAFT, or the PLOT is not FREE, or NEEDED already")
    static void drawOfFreePlotsIntoDrafts() {
        Story s = schemes(3).does(h -> h.own(0, 0, 1), h -> h.draw(0, 0, 1), h -> h.notice(0)).day(21);
        s.does(h -> h.confirm(0)).refuses(Story.STATE, h -> h.draw(0, 1, 1)).refuses(Story.STATE, h -> h.draw(1, 0, 1));
        s.does(h -> h.enter(0)).refuses(Story.STATE, h -> h.draw(1, 0, 1)).does(h -> h.drop(0));
        s.refuses(Story.STATE, h -> h.draw(1, 0, 1)).refuses(Story.STATE, h -> h.draw(0, 1, 1)).does(h -> h.accept(0));
        s.refuses(Story.STATE, h -> h.draw(1, 0, 1)).answers(1, h -> h.draw(1, 1, 1));
        s.refuses(Story.STATE, h -> h.draw(1, 1, 1)).refuses(Story.STATE, h -> h.draw(2, 1, 1));
    }

    @Sentence(of = "Promise 13",
            words = {"@param interest its number", "@throws IndexOutOfBoundsException if there is no such INTEREST"})
    static void noticeOfTheInterests() {
        edgesOfInterests((h, interest) -> h.notice(interest));
    }

    @Sentence(of = "Promise 13", words = {"Notifies an INTEREST, TODAY.", "@return the SCHEME of which it is notified"})
    static void noticeReturnsTheScheme() {
        Story s = schemes(4);
        s.does(h -> h.own(0, 0, 1), h -> h.own(1, 0, 1), h -> h.own(1, 0, 1), h -> h.draw(0, 0, 1), h -> h.draw(3, 1, 1));
        s.answers(0, h -> h.notice(0)).answers(0, h -> h.interestOf(0, 5)).day(20000).answers(3, h -> h.notice(1));
        s.answers(20000, h -> h.interestOf(1, 5)).answers(-1, h -> h.interestOf(2, 5)).answers(0, h -> h.interestOf(0, 5));
    }

    @Sentence(of = "Promise 13",
            words = "@throws IllegalStateException if its PLOT is not FREE, or not NEEDED, its SCHEME is no DRAFT, or it was notified")
    static void noticeOnlyOnceAndOfDrafts() {
        Story s = Beginnings.drawn().does(h -> h.own(1, 0, 1)).refuses(Story.STATE, h -> h.notice(3)).does(h -> h.notice(0));
        s.refuses(Story.STATE, h -> h.notice(0)).does(h -> h.drop(0)).refuses(Story.STATE, h -> h.notice(0));
        Beginnings.confirmed(0, 0, 10, 0, 1).does(h -> h.own(0, 0, 1)).refuses(Story.STATE, h -> h.notice(0))
                .does(h -> h.enter(0)).refuses(Story.STATE, h -> h.notice(0));
        Beginnings.home(5).does(h -> h.own(0, 2, 1)).day(180).does(h -> h.blight(0)).refuses(Story.STATE, h -> h.notice(0))
                .refuses(Story.STATE, h -> h.notice(1));
    }

    @Sentence(of = "Promise 14",
            words = {"@param interest its number", "@throws IndexOutOfBoundsException if there is no such INTEREST"})
    static void objectOfTheInterests() {
        edgesOfInterests((h, interest) -> h.object(interest), h -> h.notice(0), h -> h.notice(1), h -> h.notice(2));
    }

    @Sentence(of = "Promise 14", words = {"Lets an INTEREST object.",
        "@return how many OPEN objections INTERESTS of the FREE PLOTS of its SCHEME have then"})
    static void objectCounts() {
        Story s = widest();
        for (int i = 0; i < 24; i++) {
            int interest = 23 - i;
            int due = i + 1;
            s.answers(due, h -> h.object(interest));
        }
        // Neither closed ones, nor those of another SCHEME, nor those of PLOTS that are not FREE.
        s = Beginnings.notified();
        s.does(h -> h.object(0), h -> h.hear(0, false), h -> h.own(1, 0, 1), h -> h.scheme(0, 0), h -> h.draw(1, 1, 1));
        s.does(h -> h.notice(3)).answers(1, h -> h.object(3)).answers(1, h -> h.object(1));
        blighted().does(h -> h.own(1, 0, 1), h -> h.draw(0, 1, 1), h -> h.notice(2)).answers(1, h -> h.object(2));
    }

    @Sentence(of = "Promise 14",
            words = "@throws IllegalStateException if it was not notified, its notice was more than 21 days ago, it objected already, or its SCHEME is no DRAFT, or its PLOT is not FREE")
    static void objectOnlyOnceAndToDrafts() {
        Story s = Beginnings.drawn().refuses(Story.STATE, h -> h.object(0)).does(h -> h.notice(0), h -> h.object(0));
        s.refuses(Story.STATE, h -> h.object(0)).does(h -> h.hear(0, false)).refuses(Story.STATE, h -> h.object(0));
        Beginnings.notified().day(21).does(h -> h.object(1)).day(22).refuses(Story.STATE, h -> h.object(0))
                .refuses(Story.STATE, h -> h.object(1));
        s = Beginnings.notified().day(21).does(h -> h.confirm(0)).refuses(Story.STATE, h -> h.object(0));
        s.does(h -> h.enter(0)).refuses(Story.STATE, h -> h.object(0));
        Beginnings.notified().does(h -> h.drop(0)).refuses(Story.STATE, h -> h.object(0));
        blighted().refuses(Story.STATE, h -> h.object(1)).does(h -> h.drop(0)).refuses(Story.STATE, h -> h.object(1));
    }

    @Sentence(of = "Promise 15",
            words = {"@param interest the INTEREST that objected", "@throws IndexOutOfBoundsException if there is no such INTEREST"})
    static void hearOfTheInterests() {
        Story.Call[] objections = {h -> h.notice(0), h -> h.notice(2), h -> h.object(0), h -> h.object(2)};
        edgesOfInterests((h, interest) -> h.hear(interest, true), objections);
        edgesOfInterests((h, interest) -> h.hear(interest, false), objections);
    }

    @Sentence(of = "Promise 15", words = {"Hears an objection.", "@param isUpheld whether it is upheld",
        "@return how many OPEN objections INTERESTS of the FREE PLOTS of the SCHEME have then, without this PLOT, if it is upheld"})
    static void hearCounts() {
        Story s = Beginnings.notified();
        s.does(h -> h.own(1, 0, 1), h -> h.own(2, 0, 1), h -> h.draw(0, 1, 1), h -> h.scheme(0, 0));
        s.does(h -> h.draw(1, 2, 1), h -> h.notice(3), h -> h.notice(4), h -> h.object(0), h -> h.object(1),
                h -> h.object(2), h -> h.object(3)).answers(1, h -> h.object(4)).answers(3, h -> h.hear(0, false));
        s.answers(1, h -> h.hear(1, true)).answers(0, h -> h.hear(3, true)).answers(0, h -> h.hear(4, false));
        s = widest();
        for (int i = 0; i < 24; i++) {
            int interest = i;
            s.does(h -> h.object(interest));
        }
        for (int i = 0; i < 24; i++) {
            int interest = i;
            s.answers(23 - interest, h -> h.hear(interest, interest % 2 == 0));
        }
        // The OPEN objection of a PLOT that is TAKEN does not count.
        s = blighted().does(h -> h.own(1, 0, 1), h -> h.draw(0, 1, 1), h -> h.notice(2), h -> h.object(2));
        s.answers(0, h -> h.hear(2, false));
    }

    @Sentence(of = "Promise 15",
            words = "@throws IllegalStateException if it has no OPEN objection, its SCHEME is no DRAFT, or its PLOT is not FREE")
    static void hearOnlyOpenObjectionsToDrafts() {
        Story s = Beginnings.drawn().refuses(Story.STATE, h -> h.hear(0, true)).does(h -> h.notice(0));
        s.refuses(Story.STATE, h -> h.hear(0, false)).does(h -> h.object(0), h -> h.hear(0, false));
        s.refuses(Story.STATE, h -> h.hear(0, true)).refuses(Story.STATE, h -> h.hear(0, false));
        s = Beginnings.notified().does(h -> h.object(1)).day(30).does(h -> h.confirm(0));
        s.refuses(Story.STATE, h -> h.hear(1, true)).refuses(Story.STATE, h -> h.hear(1, false)).does(h -> h.enter(0));
        s.refuses(Story.STATE, h -> h.hear(1, true)).does(h -> h.drop(0)).refuses(Story.STATE, h -> h.hear(1, false));
        blighted().refuses(Story.STATE, h -> h.hear(0, true)).refuses(Story.STATE, h -> h.hear(0, false));
    }

    @Sentence(of = "Promise 16",
            words = {"@param scheme its number", "@throws IndexOutOfBoundsException if there is no such SCHEME"})
    static void confirmOfTheSchemes() {
        edgesOfSchemes((h, scheme) -> h.confirm(scheme));
    }

    @Sentence(of = "Promise 16", words = {"Confirms a SCHEME, TODAY.", "@return how many FREE PLOTS it NEEDS"})
    static void confirmCounts() {
        schemes(1).does(h -> h.draw(0, 0, 1)).answers(1, h -> h.confirm(0)).answers(0, h -> h.schemeOf(0, 2));
        widest().day(20000).answers(36, h -> h.confirm(0)).answers(20000, h -> h.schemeOf(0, 2));
        blighted().does(h -> h.draw(0, 1, 1), h -> h.draw(0, 2, 1)).answers(2, h -> h.confirm(0))
                .answers(3, h -> h.schemeOf(0, 1));
    }

    @Sentence(of = "Promise 16",
            words = "@throws IllegalStateException if it cannot be CONFIRMED; if that is for an INTEREST, its cause, an own exception, tells which, the lowest one")
    static void confirmRefuses() {
        // Which INTEREST it is, whoStops tells: LANGUAGE.md has no room for a cause.
        Story s = Beginnings.notified().does(h -> h.object(0), h -> h.object(2)).refuses(Story.STATE, h -> h.confirm(0));
        s.day(21).refuses(Story.STATE, h -> h.confirm(0)).answers(0, h -> h.whoStops(0)).does(h -> h.hear(0, false));
        s.refuses(Story.STATE, h -> h.confirm(0)).answers(2, h -> h.whoStops(0)).does(h -> h.hear(2, true));
        s.refuses(Story.STATE, h -> h.confirm(0)).answers(-1, h -> h.whoStops(0)).does(h -> h.draw(0, 1, 1));
        s.answers(1, h -> h.confirm(0)).refuses(Story.STATE, h -> h.confirm(0)).does(h -> h.drop(0));
        s.refuses(Story.STATE, h -> h.confirm(0));
    }

    @Sentence(of = "Promise 17",
            words = {"@param scheme its number", "@throws IndexOutOfBoundsException if there is no such SCHEME"})
    static void whoStopsOfTheSchemes() {
        edgesOfSchemes((h, scheme) -> h.whoStops(scheme));
    }

    @Sentence(of = "Promise 17",
            words = {"Returns the lowest INTEREST for which a SCHEME that is a DRAFT cannot be CONFIRMED, TODAY.",
        "@return the INTEREST"})
    static void whoStopsIsTheLowest() {
        Story s = widest().answers(0, h -> h.whoStops(0)).does(h -> h.object(23)).day(20).answers(0, h -> h.whoStops(0));
        s.day(21).answers(23, h -> h.whoStops(0)).does(h -> h.object(5)).answers(5, h -> h.whoStops(0));
        s.does(h -> h.hear(5, true)).answers(23, h -> h.whoStops(0)).does(h -> h.hear(23, false));
        s.answers(-1, h -> h.whoStops(0));
        // Not the first PLOT's, but the lowest number's; and not for another SCHEME.
        new Story()
                .does(h -> h.own(9, 0, 1), h -> h.own(0, 0, 1), h -> h.own(1, 0, 1), h -> h.scheme(0, 0),
                        h -> h.scheme(0, 0), h -> h.draw(0, 0, 1), h -> h.draw(0, 9, 1), h -> h.draw(1, 1, 1))
                .answers(0, h -> h.whoStops(0)).answers(2, h -> h.whoStops(1));
    }

    @Sentence(of = "Promise 17", words = "NONE without one, also if it is no DRAFT")
    static void whoStopsIsNone() {
        schemes(1).answers(-1, h -> h.whoStops(0)).does(h -> h.draw(0, 0, 1)).answers(-1, h -> h.whoStops(0));
        Story s = Beginnings.notified().day(21).answers(-1, h -> h.whoStops(0)).does(h -> h.confirm(0), h -> h.own(0, 0, 1));
        s.answers(-1, h -> h.whoStops(0)).does(h -> h.drop(0)).answers(-1, h -> h.whoStops(0));
        Beginnings.drawn().answers(0, h -> h.whoStops(0)).does(h -> h.drop(0)).answers(-1, h -> h.whoStops(0));
    }

    @Sentence(of = "Promise 18",
            words = {"@param scheme its number", "@throws IndexOutOfBoundsException if there is no such SCHEME"})
    static void dropOfTheSchemes() {
        edgesOfSchemes((h, scheme) -> h.drop(scheme));
    }

    @Sentence(of = "Promise 18", words = {"Drops a SCHEME, TODAY.", "@return how many PLOTS are OFFERED by that"})
    static void dropCounts() {
        schemes(1).answers(0, h -> h.drop(0)).answers(0, h -> h.schemeOf(0, 3));
        widest().day(20000).answers(0, h -> h.drop(0)).answers(20000, h -> h.schemeOf(0, 3));
        Story s = widest().day(21).does(h -> h.confirm(0));
        for (int i = 0; i < 36; i++) {
            int plot = i;
            s.does(h -> h.enter(plot));
        }
        // The PLOTS 0 to 11 have no OWNERS.
        s.answers(24, h -> h.drop(0)).answers(-1, h -> h.plotOf(11, 7)).answers(23, h -> h.plotOf(12, 7));
        s.answers(0, h -> h.plotOf(35, 7));
        // Not those that are OFFERED already, of another SCHEME.
        Beginnings.offered().does(h -> h.scheme(0, 0), h -> h.draw(1, 1, 1)).answers(0, h -> h.drop(1))
                .answers(0, h -> h.plotOf(0, 7));
    }

    @Sentence(of = "Promise 18", words = "@throws IllegalStateException if it is DROPPED")
    static void dropOnlyOnce() {
        schemes(1).does(h -> h.drop(0)).refuses(Story.STATE, h -> h.drop(0)).day(1).refuses(Story.STATE, h -> h.drop(0));
        Beginnings.offered().does(h -> h.refuse(0)).refuses(Story.STATE, h -> h.drop(0));
        Beginnings.drawn().answers(0, h -> h.drop(0)).refuses(Story.STATE, h -> h.drop(0));
        Beginnings.confirmed(0, 0, 10, 0, 1).answers(0, h -> h.drop(0)).refuses(Story.STATE, h -> h.drop(0));
    }

    @Sentence(of = "Promise 19",
            words = {"@param scheme its number", "@throws IndexOutOfBoundsException if there is no such SCHEME"})
    static void schemeOfTheSchemes() {
        for (int i = 0; i < 4; i++) {
            int what = i;
            edgesOfSchemes((h, scheme) -> h.schemeOf(scheme, what));
        }
    }

    @Sentence(of = "Promise 19",
            words = {"Tells of a SCHEME.", "@throws IllegalArgumentException if what is out of its range"})
    static void schemeOfOfWhat() {
        Edges.hold(() -> schemes(1), 0, 3, Story.ARGUMENT, (h, what) -> h.schemeOf(0, what));
        Edges.hold(Beginnings::offered, 0, 3, Story.ARGUMENT, (h, what) -> h.schemeOf(0, what));
    }

    @Sentence(of = "Promise 19", words = "@param what 0 DRAFT to DROPPED, 1 how many PLOTS it NEEDS, TAKEN ones with them")
    static void schemeOfStateAndPlots() {
        Story s = schemes(1).answers(0, h -> h.schemeOf(0, 0)).answers(0, h -> h.schemeOf(0, 1));
        s.does(h -> h.draw(0, 0, 1), h -> h.draw(0, 35, 1)).answers(2, h -> h.schemeOf(0, 1)).does(h -> h.confirm(0));
        s.answers(1, h -> h.schemeOf(0, 0)).answers(2, h -> h.schemeOf(0, 1)).does(h -> h.enter(0));
        s.answers(2, h -> h.schemeOf(0, 1)).does(h -> h.enter(35), h -> h.works(35)).answers(2, h -> h.schemeOf(0, 1));
        s.does(h -> h.drop(0)).answers(2, h -> h.schemeOf(0, 0)).answers(0, h -> h.schemeOf(0, 1));
        widest().answers(36, h -> h.schemeOf(0, 1)).does(h -> h.object(3), h -> h.hear(3, true))
                .answers(35, h -> h.schemeOf(0, 1));
    }

    @Sentence(of = "Promise 19",
            words = {"2 the day on which it was CONFIRMED, or NONE, 3 the day on which it was DROPPED, or NONE", "@return as told"})
    static void schemeOfDays() {
        Story s = schemes(3).does(h -> h.draw(0, 0, 1), h -> h.draw(1, 1, 1)).answers(-1, h -> h.schemeOf(0, 2));
        s.answers(-1, h -> h.schemeOf(0, 3)).does(h -> h.confirm(0)).answers(0, h -> h.schemeOf(0, 2));
        s.answers(-1, h -> h.schemeOf(0, 3)).does(h -> h.drop(0)).answers(0, h -> h.schemeOf(0, 2));
        s.answers(0, h -> h.schemeOf(0, 3)).day(19999).does(h -> h.confirm(1)).day(20000);
        s.answers(19999, h -> h.schemeOf(1, 2)).does(h -> h.drop(1), h -> h.drop(2)).answers(19999, h -> h.schemeOf(1, 2));
        s.answers(20000, h -> h.schemeOf(1, 3)).answers(-1, h -> h.schemeOf(2, 2)).answers(20000, h -> h.schemeOf(2, 3));
        s.answers(0, h -> h.schemeOf(0, 3));
    }
}
