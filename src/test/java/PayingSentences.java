/** The sentences of "Paying", and of the promises 24 to 26. */
final class PayingSentences {
    private PayingSentences() {
    }

    /** INTERESTS that get SUMS of 999, 1 and 0 as their PLOT is TAKEN, and one of another PLOT. */
    private static Story threeSums() {
        return Beginnings.confirmed(0, 0, 1, 1, 100)
                .does(h -> h.price(1, 1000), h -> h.charge(0, 1, 999), h -> h.charge(0, 2, 1), h -> h.own(0, 3, 100),
                        h -> h.own(1, 3, 100));
    }

    private static void advance(int due, int sum) {
        Beginnings.charged(sum).answers(due, h -> h.advance(0)).answers(due, h -> h.interestOf(0, 8))
                .answers(sum - due, h -> h.owed(0));
    }

    /** Each call by INTEREST refuses what is not there, in halls with none, one and 24. */
    private static void edgesOfInterests(Edges.CallWith call) {
        Edges.refuse(Story::new, Story.INDEX, call, 0, 23);
        Edges.hold(() -> Beginnings.charged(5), 0, 0, Story.INDEX, call);
        Story full = Beginnings.confirmed(0, 0, 100, 2, 100);
        for (int i = 0; i < 24; i++) {
            full.does(h -> h.charge(0, 0, 1));
        }
        full.does(h -> h.enter(0), h -> call.on(h, 0), h -> call.on(h, 23)).refuses(Story.INDEX, h -> call.on(h, 24));
    }

    @Sentence(of = "Paying", words = "What is OWED to an INTEREST is its SUM, less what was paid of it, and the gain")
    static void owedIsWhatIsUnpaidAndTheGain() {
        Story s = Beginnings.charged(1000).answers(1000, h -> h.owed(0)).day(365).answers(1030, h -> h.owed(0));
        s.does(h -> h.advance(0)).answers(130, h -> h.owed(0)).day(730).answers(133, h -> h.owed(0)).does(h -> h.settle(0));
        s.answers(0, h -> h.owed(0));
        threeSums().answers(0, h -> h.owed(0)).day(500).answers(0, h -> h.owed(0)).does(h -> h.enter(0))
                .answers(999, h -> h.owed(0)).answers(0, h -> h.owed(2)).answers(0, h -> h.owed(3));
    }

    @Sentence(of = "Paying",
            words = "as long as something of the SUM is unpaid, for each row of days without a payment between, the unpaid times these days, times 3, divided by 36500")
    static void theGainOfARowOfDays() {
        Beginnings.charged(36500).answers(36500, h -> h.owed(0)).day(1).answers(36503, h -> h.owed(0)).day(2)
                .answers(36506, h -> h.owed(0));
        // 3 times 12166 days is 36498, and 3 times 12167 is 36501.
        Beginnings.charged(1).day(12166).answers(1, h -> h.owed(0)).day(12167).answers(2, h -> h.owed(0));
        Beginnings.charged(12166).day(1).answers(12166, h -> h.owed(0));
        Beginnings.charged(12167).day(1).answers(12168, h -> h.owed(0));
        // More than an int holds, before it is divided.
        Beginnings.charged(100000).day(1).answers(100008, h -> h.owed(0)).day(20000).answers(264383, h -> h.owed(0));
        // Nothing of a SUM of 0, and nothing more behind the settling.
        Story s = threeSums().does(h -> h.enter(0), h -> h.settle(0)).day(20000).answers(0, h -> h.owed(2));
        s.answers(0, h -> h.owed(0)).answers(2, h -> h.owed(1)).does(h -> h.advance(2)).answers(0, h -> h.owed(2));
        // Whatever becomes of the PLOT.
        s = Beginnings.charged(36500).does(h -> h.drop(0)).day(10).answers(36530, h -> h.owed(0));
        s = Beginnings.confirmed(0, 0, 73, 2, 100);
        s.does(h -> h.price(2, 1000), h -> h.own(0, 0, 50), h -> h.enter(0), h -> h.drop(0), h -> h.accept(0)).day(10);
        s.answers(36530, h -> h.owed(0));
    }

    @Sentence(of = "Paying", words = "rounded down for each row by itself")
    static void eachRowIsRoundedByItself() {
        // Both rows together would bring 1.98.
        Story s = Beginnings.charged(1000).day(12).answers(1000, h -> h.owed(0)).does(h -> h.advance(0));
        s.answers(100, h -> h.owed(0)).day(133).answers(100, h -> h.owed(0)).day(134).answers(101, h -> h.owed(0));
        s = Beginnings.charged(1000).day(13).answers(1001, h -> h.owed(0)).does(h -> h.advance(0));
        s.answers(101, h -> h.owed(0)).day(134).answers(101, h -> h.owed(0)).day(135).answers(102, h -> h.owed(0));
        s.answers(102, h -> h.settle(0));
    }

    @Sentence(of = "Paying", words = "it begins on the VALUE DAY")
    static void theGainBeginsOnTheValueDay() {
        Story s = Beginnings.confirmed(0, 0, 100, 2, 100).does(h -> h.price(2, 1000), h -> h.charge(0, 0, 36500)).day(50);
        s.does(h -> h.enter(0)).answers(36500, h -> h.owed(0)).day(51).answers(36503, h -> h.owed(0)).does(h -> h.works(0));
        s.day(52).answers(36506, h -> h.owed(0));
        s = Beginnings.home(1).day(180).does(h -> h.price(1, 1000), h -> h.charge(0, 0, 3650), h -> h.blight(0));
        s.answers(3650, h -> h.owed(1)).day(190).answers(3653, h -> h.owed(1));
        // Not on the day 0, with an advance either: rows of 10 and of 20 days.
        s = Beginnings.confirmed(0, 0, 100, 2, 100).does(h -> h.price(2, 1000), h -> h.charge(0, 0, 36500)).day(50);
        s.does(h -> h.enter(0)).day(60).does(h -> h.advance(0)).answers(3680, h -> h.owed(0)).day(80);
        s.answers(3686, h -> h.owed(0));
    }

    @Sentence(of = "Paying", words = "An advance pays 90 hundredths of the SUM")
    static void theAdvance() {
        advance(0, 1);
        advance(1, 2);
        advance(8, 9);
        advance(9, 10);
        advance(9, 11);
        advance(17, 19);
        advance(89, 99);
        advance(90, 100);
        advance(90000, 100000);
        threeSums().does(h -> h.enter(0)).answers(0, h -> h.advance(2)).answers(0, h -> h.advance(1))
                .answers(899, h -> h.advance(0)).answers(899, h -> h.total(1));
    }

    @Sentence(of = "Paying", words = ", once, and nothing of the gain")
    static void oneAdvanceAndNothingOfTheGain() {
        Story s = Beginnings.charged(36500).day(100).answers(32850, h -> h.advance(0)).answers(3950, h -> h.owed(0));
        s.refuses(Story.STATE, h -> h.advance(0)).day(20000).refuses(Story.STATE, h -> h.advance(0)).does(h -> h.settle(0));
        s.refuses(Story.STATE, h -> h.advance(0));
        Beginnings.charged(1).answers(0, h -> h.advance(0)).refuses(Story.STATE, h -> h.advance(0)).day(1)
                .refuses(Story.STATE, h -> h.advance(0));
    }

    @Sentence(of = "Paying", words = "it parts two rows of days, one of 0 too")
    static void theAdvancePartsTwoRows() {
        // One of 0 cents: behind 6000 days without a gain it takes 12167 more.
        Story s = Beginnings.charged(1).day(6000).answers(0, h -> h.advance(0)).day(18166).answers(1, h -> h.owed(0));
        s.day(18167).answers(2, h -> h.owed(0));
        // A row of 0 days, ahead of the advance and behind it.
        s = Beginnings.charged(36500).answers(32850, h -> h.advance(0)).answers(3650, h -> h.owed(0)).day(10);
        s.answers(3653, h -> h.owed(0));
        s = Beginnings.charged(36500).day(10).does(h -> h.advance(0)).answers(3680, h -> h.owed(0));
        s.answers(3680, h -> h.settle(0));
        s = Beginnings.charged(36500).day(10).does(h -> h.advance(0)).day(30).answers(3686, h -> h.owed(0));
    }

    @Sentence(of = "Paying", words = "To settle pays all that is OWED, gain with it")
    static void settlingPaysAll() {
        Beginnings.charged(36500).answers(36500, h -> h.settle(0)).answers(36500, h -> h.interestOf(0, 8));
        Beginnings.charged(36500).day(1).answers(36503, h -> h.settle(0)).answers(36503, h -> h.interestOf(0, 8))
                .answers(36503, h -> h.total(1));
        Beginnings.charged(36500).day(10).does(h -> h.advance(0)).day(20).answers(3683, h -> h.settle(0))
                .answers(36533, h -> h.interestOf(0, 8)).answers(36533, h -> h.total(1))
                .answers(36500, h -> h.interestOf(0, 7));
        Beginnings.charged(100000).day(20000).answers(264383, h -> h.settle(0)).answers(264383, h -> h.total(1));
        threeSums().does(h -> h.enter(0)).answers(0, h -> h.settle(2)).answers(1, h -> h.settle(1))
                .answers(999, h -> h.settle(0));
    }

    @Sentence(of = "Paying", words = "nothing is OWED behind that")
    static void nothingIsOwedBehindTheSettling() {
        Story s = Beginnings.charged(36500).day(1).does(h -> h.settle(0)).answers(0, h -> h.owed(0));
        s.answers(0, h -> h.creditors(3)).day(2).answers(0, h -> h.owed(0)).day(20000).answers(0, h -> h.owed(0));
        s.answers(0, h -> h.creditors(3)).refuses(Story.STATE, h -> h.settle(0));
        s = Beginnings.charged(36500).day(1).does(h -> h.advance(0)).day(2).does(h -> h.settle(0)).day(9000);
        s.answers(0, h -> h.owed(0)).refuses(Story.STATE, h -> h.settle(0)).refuses(Story.STATE, h -> h.advance(0));
    }

    @Sentence(of = "Promise 24",
            words = {"@param interest its number", "@throws IndexOutOfBoundsException if there is no such INTEREST"})
    static void owedOfTheInterests() {
        edgesOfInterests((h, interest) -> h.owed(interest));
    }

    @Sentence(of = "Promise 24", words = {"Returns what is OWED to an INTEREST, TODAY, gain with it.", "@return the cents"})
    static void owedToday() {
        Story s = Beginnings.charged(365).answers(365, h -> h.owed(0)).day(33).answers(365, h -> h.owed(0)).day(34);
        s.answers(366, h -> h.owed(0)).day(66).answers(366, h -> h.owed(0)).day(67).answers(367, h -> h.owed(0)).day(20000);
        s.answers(965, h -> h.owed(0));
        Beginnings.drawn().answers(0, h -> h.owed(0)).answers(0, h -> h.owed(1)).answers(0, h -> h.owed(2));
    }

    @Sentence(of = "Promise 25",
            words = {"@param interest its number", "@throws IndexOutOfBoundsException if there is no such INTEREST"})
    static void advanceOfTheInterests() {
        edgesOfInterests((h, interest) -> h.advance(interest));
    }

    @Sentence(of = "Promise 25", words = {"Pays an advance.", "@return what is paid"})
    static void advanceReturnsWhatIsPaid() {
        Story s = threeSums().does(h -> h.enter(0)).day(700).answers(899, h -> h.advance(0));
        s.answers(899, h -> h.interestOf(0, 8)).answers(0, h -> h.advance(2)).answers(0, h -> h.interestOf(2, 8));
        s.answers(899, h -> h.total(1));
        // Of land that is OFFERED, and BACK.
        Beginnings.offered().answers(22, h -> h.advance(0)).does(h -> h.accept(35)).answers(22, h -> h.advance(1))
                .answers(44, h -> h.total(1));
    }

    @Sentence(of = "Promise 25",
            words = "@throws IllegalStateException if its PLOT never was TAKEN, or it had an advance, or was settled")
    static void advanceRefuses() {
        Story s = threeSums().refuses(Story.STATE, h -> h.advance(0)).does(h -> h.enter(0));
        s.refuses(Story.STATE, h -> h.advance(3)).does(h -> h.advance(0), h -> h.settle(1), h -> h.advance(2));
        s.refuses(Story.STATE, h -> h.advance(0)).refuses(Story.STATE, h -> h.advance(1));
        s.refuses(Story.STATE, h -> h.advance(2)).does(h -> h.settle(0)).refuses(Story.STATE, h -> h.advance(0)).day(9);
        s.refuses(Story.STATE, h -> h.advance(0));
        Beginnings.notified().refuses(Story.STATE, h -> h.advance(0)).does(h -> h.drop(0))
                .refuses(Story.STATE, h -> h.advance(0));
    }

    @Sentence(of = "Promise 26",
            words = {"@param interest its number", "@throws IndexOutOfBoundsException if there is no such INTEREST"})
    static void settleOfTheInterests() {
        edgesOfInterests((h, interest) -> h.settle(interest));
    }

    @Sentence(of = "Promise 26", words = {"Settles an INTEREST.", "@return what is paid"})
    static void settleReturnsWhatIsPaid() {
        Story s = threeSums().does(h -> h.enter(0)).day(365).answers(1028, h -> h.settle(0));
        s.answers(1028, h -> h.interestOf(0, 8)).answers(1, h -> h.settle(1)).answers(0, h -> h.settle(2));
        s.answers(1029, h -> h.total(1));
        Beginnings.offered().answers(25, h -> h.settle(0)).does(h -> h.accept(35)).answers(25, h -> h.settle(1));
    }

    @Sentence(of = "Promise 26", words = "@throws IllegalStateException if its PLOT never was TAKEN, or it was settled")
    static void settleRefuses() {
        Story s = threeSums().refuses(Story.STATE, h -> h.settle(0)).does(h -> h.enter(0));
        s.refuses(Story.STATE, h -> h.settle(3));
        s.does(h -> h.settle(0), h -> h.settle(2), h -> h.advance(1), h -> h.settle(1));
        s.refuses(Story.STATE, h -> h.settle(0)).refuses(Story.STATE, h -> h.settle(1));
        s.refuses(Story.STATE, h -> h.settle(2)).day(20000).refuses(Story.STATE, h -> h.settle(0));
        Beginnings.notified().refuses(Story.STATE, h -> h.settle(0)).does(h -> h.drop(0))
                .refuses(Story.STATE, h -> h.settle(0));
    }
}
