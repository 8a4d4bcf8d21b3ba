/** The sentences of "What it is", and those of "Terms" that hold for all calls. */
final class TermSentences {
    private static final int MIN = Integer.MIN_VALUE, MAX = Integer.MAX_VALUE;

    private TermSentences() {
    }

    /** A hall in which as much is told as can be: 24 INTERESTS and 4 SCHEMES, on the day 20000. */
    private static Story full() {
        Story s = new Story();
        for (int i = 0; i < 24; i++) {
            s.does(h -> h.own(0, 0, 4));
        }
        for (int i = 0; i < 4; i++) {
            int scheme = i;
            s.does(h -> h.scheme(0, 0), h -> h.draw(scheme, scheme, 50));
        }
        return s.does(h -> h.drop(3)).day(20000);
    }

    private static void refusesAll(Story s, Class<? extends RuntimeException> due, Story.Call... calls) {
        for (Story.Call call : calls) {
            s.refuses(due, call);
        }
    }

    @Sentence(of = "What it is", words = {"A hall that takes land for what all need:",
        "An object is used for at most 512 calls after it has been made; what later calls answer is free."})
    static void goodFor512Calls() {
        Story s = new Story();
        s.does(h -> h.plot(0, 1, 0), h -> h.own(0, 0, 100), h -> h.scheme(0, 0), h -> h.draw(0, 0, 100), h -> h.notice(0));
        s.does(h -> h.pass(21), h -> h.confirm(0));
        // 250 PRICES on as many days, and the last of 512 calls is paid by them.
        for (int i = 0; i < 250; i++) {
            int cents = i;
            s.answers(cents == 0 ? 5 : cents - 1, h -> h.price(0, cents)).answers(22 + cents, h -> h.pass(1));
        }
        s.answers(249, h -> h.enter(0)).answers(5, h -> h.worth(0, 20)).answers(0, h -> h.worth(0, 21));
        s.answers(124, h -> h.worth(0, 145)).answers(249, h -> h.settle(0));
        // Calls that throw are calls, too.
        Takinghall hall = new Takinghall();
        for (int i = 0; i < 511; i++) {
            Tally.check(Questions.answer(hall, h -> h.price(0, 1001)).equals(Story.ARGUMENT.getName()), "a price of 1001");
        }
        Tally.check(hall.price(0, 1000) == 5, "the 512th call");
    }

    @Sentence(of = "Terms",
            words = "The aim is that nobody is paid twice, that works stand on land taken by a valid chain alone, and that each SUM is found once more from the prices of its day.")
    static void theAim() {
        Story s = Beginnings.notified().day(21).refuses(Story.STATE, h -> h.works(0)).does(h -> h.confirm(0));
        s.refuses(Story.STATE, h -> h.works(0)).does(h -> h.enter(0), h -> h.price(0, 900)).answers(1, h -> h.works(0));
        s.answers(6, h -> h.interestOf(0, 7)).answers(6, h -> h.sumAnew(0)).answers(5, h -> h.advance(0));
        s.refuses(Story.STATE, h -> h.advance(0)).answers(1, h -> h.settle(0)).refuses(Story.STATE, h -> h.settle(0));
        s.refuses(Story.STATE, h -> h.advance(0)).answers(6, h -> h.interestOf(0, 8)).answers(6, h -> h.total(1));
        s.answers(0, h -> h.owed(0));
    }

    @Sentence(of = "Terms",
            words = "All numbers are whole, money in cents; divisions are rounded down, nothing that is divided is below 0.")
    static void divisionsAreRoundedDown() {
        // 69.3 and 89.1 of a MARKET, 32.67 of a part, 33.5 of a harm, 16.17 of a share, 1.6 of a tenth, 15.3 of an advance.
        Story s = new Story();
        s.does(h -> h.plot(0, 1, 0), h -> h.plot(1, 1, 0), h -> h.price(0, 99), h -> h.scheme(50, 0), h -> h.draw(0, 0, 33));
        s.answers(69, h -> h.market(0)).answers(89, h -> h.market(1)).does(h -> h.confirm(0), h -> h.own(0, 0, 26));
        s.answers(65, h -> h.enter(0)).answers(16, h -> h.interestOf(0, 7)).answers(14, h -> h.advance(0));
        s.does(h -> h.drop(0)).answers(32, h -> h.plotOf(0, 8));
        s = Beginnings.confirmed(0, 0, 1, 1, 100).does(h -> h.price(1, 16), h -> h.own(0, 0, 100)).day(365);
        s.does(h -> h.enter(0)).answers(17, h -> h.sumAnew(0));
        // What would be below 0 is 0, and shares of it are 0.
        s = Beginnings.confirmed(0, 50, 20, 0, 1).does(h -> h.own(0, 0, 99)).answers(0, h -> h.enter(0));
        s.answers(0, h -> h.sumAnew(0)).answers(0, h -> h.total(2));
    }

    @Sentence(of = "Terms", words = "Of several exceptions of a throws clause the first is thrown")
    static void firstWhatIsNotThere() {
        Story s = full();
        refusesAll(s, Story.INDEX, h -> h.plot(36, 0, 3), h -> h.plot(-1, 101, -1), h -> h.worth(36, 20001),
                h -> h.worth(-1, -1), h -> h.plotOf(36, 9), h -> h.plotOf(-1, -1), h -> h.interestOf(24, 9),
                h -> h.interestOf(-1, -1), h -> h.schemeOf(4, 4), h -> h.schemeOf(-1, -1));
        // No place is left for one more INTEREST, and the share, the day and the debt are wrong.
        refusesAll(s, Story.INDEX, h -> h.own(36, 0, 0), h -> h.own(0, 10, 0), h -> h.own(36, 0, 1), h -> h.own(0, -1, 97),
                h -> h.lease(36, 0, 20000, 101), h -> h.lease(-1, 0, 20001, 1), h -> h.lease(0, 10, 20000, -1),
                h -> h.lease(0, -1, 20001, 1), h -> h.charge(36, 0, 0), h -> h.charge(0, 10, 0), h -> h.charge(-1, 0, 1),
                h -> h.charge(0, -1, 1));
        // The SCHEME 3 is DROPPED, the PLOT 0 is NEEDED.
        refusesAll(s, Story.INDEX, h -> h.draw(4, 0, 0), h -> h.draw(4, 0, 1), h -> h.draw(3, 36, 0), h -> h.draw(3, 36, 1),
                h -> h.draw(3, -1, 1), h -> h.draw(-1, 36, 0));
        // PLOTS that are TAKEN, and BACK.
        refusesAll(Beginnings.offered().does(h -> h.accept(0)), Story.INDEX, h -> h.own(0, 10, 1), h -> h.own(35, -1, 51),
                h -> h.lease(0, 10, 9, 1), h -> h.lease(35, -1, 0, 1), h -> h.charge(0, 10, 1), h -> h.charge(35, -1, 0),
                h -> h.draw(1, 0, 1), h -> h.draw(0, 36, 101));
    }

    @Sentence(of = "Terms", words = "Of several exceptions of a throws clause the first is thrown")
    static void thenWhatIsOutOfItsRange() {
        refusesAll(full(), Story.ARGUMENT, h -> h.plot(0, 0, 1), h -> h.plot(0, 1, 3), h -> h.own(0, 0, 0),
                h -> h.own(0, 0, 5), h -> h.own(5, 0, 101), h -> h.lease(0, 0, 20000, 1), h -> h.lease(0, 0, 20001, 101),
                h -> h.charge(0, 0, 0), h -> h.charge(0, 0, 100001), h -> h.scheme(51, 0), h -> h.scheme(0, -1),
                h -> h.draw(0, 0, 0), h -> h.draw(3, 9, 101), h -> h.pass(0), h -> h.pass(1001));
        // Of PLOTS that are TAKEN, OFFERED and BACK.
        Story s = Beginnings.offered();
        s.does(h -> h.accept(0), h -> h.lease(1, 0, 9, 9), h -> h.charge(1, 0, 9), h -> h.scheme(0, 0));
        refusesAll(s, Story.ARGUMENT, h -> h.plot(0, 101, 0), h -> h.plot(35, 1, -1), h -> h.own(0, 0, 51),
                h -> h.own(35, 0, 0), h -> h.lease(0, 0, 0, 0), h -> h.lease(35, 0, 1, 101), h -> h.charge(0, 0, 0),
                h -> h.charge(35, 0, 100001), h -> h.draw(1, 0, 0), h -> h.draw(0, 35, 101), h -> h.blight(2),
                h -> h.blight(3));
    }

    @Sentence(of = "Terms", words = "a call that throws changes nothing")
    static void aCallThatThrowsChangesNothing() {
        // "refuses" asks all questions, ahead of the call and behind it, and tells calls that would show more.
        Story s = Beginnings.rich();
        refusesAll(s, Story.INDEX, h -> h.plot(36, 5, 1), h -> h.worth(36, 0), h -> h.market(36), h -> h.plotOf(36, 0),
                h -> h.own(36, 0, 1), h -> h.own(8, 10, 1), h -> h.lease(36, 0, 900, 1), h -> h.lease(8, 10, 900, 1),
                h -> h.charge(36, 0, 1), h -> h.charge(8, 10, 1), h -> h.interestOf(16, 0), h -> h.draw(3, 8, 1),
                h -> h.draw(2, 36, 1), h -> h.notice(16), h -> h.object(16), h -> h.hear(16, true), h -> h.confirm(3),
                h -> h.whoStops(3), h -> h.drop(3), h -> h.schemeOf(3, 0), h -> h.enter(36), h -> h.blight(16),
                h -> h.works(36), h -> h.sumAnew(16), h -> h.owed(16), h -> h.advance(16), h -> h.settle(16),
                h -> h.refuse(36), h -> h.accept(36), h -> h.creditors(10));
        refusesAll(s, Story.ARGUMENT, h -> h.plot(8, 101, 1), h -> h.plot(8, 5, 3), h -> h.price(3, 1),
                h -> h.price(0, 1001), h -> h.worth(0, 201), h -> h.plotOf(0, 9), h -> h.own(8, 0, 101),
                h -> h.own(4, 0, 1), h -> h.lease(8, 0, 200, 1), h -> h.lease(8, 0, 900, 101), h -> h.charge(8, 0, 100001),
                h -> h.interestOf(0, 9), h -> h.scheme(51, 0), h -> h.scheme(0, 51), h -> h.draw(2, 8, 101),
                h -> h.schemeOf(0, 4), h -> h.blight(14), h -> h.pass(1001), h -> h.total(5));
    }

    @Sentence(of = "Terms", words = "a call that throws changes nothing")
    static void aCallOutOfItsStateChangesNothing() {
        Story s = Beginnings.rich();
        // The PLOTS 0 to 6: BACK, OFFERED, with WORKS, TAKEN, in a CONFIRMED SCHEME, in a DRAFT.
        refusesAll(s, Story.STATE, h -> h.plot(0, 5, 1), h -> h.plot(1, 5, 1), h -> h.plot(2, 5, 1), h -> h.plot(3, 5, 1),
                h -> h.plot(4, 5, 1), h -> h.plot(5, 5, 1), h -> h.lease(0, 0, 900, 1), h -> h.lease(1, 0, 900, 1),
                h -> h.charge(2, 0, 1), h -> h.charge(3, 0, 1), h -> h.draw(2, 0, 1), h -> h.draw(2, 1, 1),
                h -> h.draw(2, 3, 1), h -> h.draw(2, 4, 1), h -> h.draw(2, 5, 1), h -> h.draw(1, 8, 1),
                h -> h.draw(0, 8, 1));
        refusesAll(s, Story.STATE, h -> h.notice(0), h -> h.notice(6), h -> h.notice(8), h -> h.notice(10),
                h -> h.notice(14), h -> h.notice(15), h -> h.object(0), h -> h.object(8), h -> h.object(10),
                h -> h.object(11), h -> h.object(12), h -> h.hear(0, true), h -> h.hear(11, true), h -> h.hear(12, false),
                h -> h.confirm(0), h -> h.confirm(1), h -> h.confirm(2), h -> h.drop(0));
        refusesAll(s, Story.STATE, h -> h.enter(0), h -> h.enter(1), h -> h.enter(3), h -> h.enter(5), h -> h.enter(8),
                h -> h.blight(0), h -> h.blight(8), h -> h.blight(12), h -> h.works(0), h -> h.works(1), h -> h.works(2),
                h -> h.works(4), h -> h.works(8), h -> h.advance(0), h -> h.advance(1), h -> h.advance(8), h -> h.settle(1),
                h -> h.settle(10), h -> h.refuse(0), h -> h.refuse(2), h -> h.refuse(3), h -> h.accept(0), h -> h.accept(8));
        // As little room as can be left.
        refusesAll(full(), Story.STATE, h -> h.own(1, 0, 1), h -> h.lease(1, 0, 20001, 1), h -> h.charge(1, 0, 1),
                h -> h.scheme(0, 0), h -> h.pass(1), h -> h.pass(1000));
    }

    @Sentence(of = "Terms", words = "questions change nothing")
    static void questionsChangeNothing() {
        for (Story s : new Story[] {new Story(), Beginnings.rich(), full()}) {
            s.changesNothingBy(h -> h.worth(0, 0), h -> h.worth(5, h.today()), h -> h.worth(0, h.today() / 2),
                    h -> h.market(1), h -> h.market(5));
            for (int i = 0; i < 9; i++) {
                int what = i;
                s.changesNothingBy(h -> h.plotOf(0, what), h -> h.plotOf(1, what), h -> h.plotOf(4, what),
                        h -> h.plotOf(5, what));
                s.changesNothingBy(h -> h.interestOf(0, what), h -> h.interestOf(2, what), h -> h.interestOf(10, what),
                        h -> h.interestOf(13, what));
                s.changesNothingBy(h -> h.schemeOf(0, what), h -> h.schemeOf(1, what), h -> h.schemeOf(2, what),
                        h -> h.total(what));
            }
            s.changesNothingBy(h -> h.whoStops(0)).changesNothingBy(h -> h.whoStops(2));
            s.changesNothingBy(h -> h.sumAnew(0), h -> h.sumAnew(2)).changesNothingBy(h -> h.owed(0));
            s.changesNothingBy(h -> h.owed(2)).changesNothingBy(h -> h.today()).changesNothingBy(h -> h.creditors(0));
        }
    }

    @Sentence(of = "Terms", words = "IndexOutOfBoundsException: there is no such PLOT, INTEREST, SCHEME or PERSON.")
    static void whatIsNotThere() {
        // Nothing told, and as much as can be told: never the machine's own exception, which is of another class.
        for (Story s : new Story[] {new Story(), full()}) {
            for (int number : new int[] {MIN, -1, 36, MAX}) {
                refusesAll(s, Story.INDEX, h -> h.plot(number, 1, 1), h -> h.worth(number, 0), h -> h.market(number),
                        h -> h.plotOf(number, 0), h -> h.own(number, 0, 1), h -> h.lease(number, 0, 30000, 1),
                        h -> h.charge(number, 0, 1), h -> h.draw(0, number, 1), h -> h.enter(number), h -> h.works(number),
                        h -> h.refuse(number), h -> h.accept(number));
                refusesAll(s, Story.INDEX, h -> h.interestOf(number, 0), h -> h.notice(number), h -> h.object(number),
                        h -> h.hear(number, true), h -> h.hear(number, false), h -> h.blight(number),
                        h -> h.sumAnew(number), h -> h.owed(number), h -> h.advance(number), h -> h.settle(number));
                refusesAll(s, Story.INDEX, h -> h.draw(number, 0, 1), h -> h.confirm(number), h -> h.whoStops(number),
                        h -> h.drop(number), h -> h.schemeOf(number, 0), h -> h.own(0, number, 1),
                        h -> h.lease(0, number, 30000, 1), h -> h.charge(0, number, 1), h -> h.creditors(number));
            }
        }
    }

    @Sentence(of = "Terms", words = "TODAY is the day 0 at first, at most 20000.")
    static void fromTheDay0ToTheDay20000() {
        new Story().answers(0, h -> h.today()).answers(50, h -> h.worth(0, 0)).refuses(Story.ARGUMENT, h -> h.worth(0, 1))
                .answers(1, h -> h.pass(1));
        new Story().day(20000).answers(20000, h -> h.today()).answers(50, h -> h.worth(0, 20000))
                .refuses(Story.ARGUMENT, h -> h.worth(0, 20001)).refuses(Story.STATE, h -> h.pass(1))
                .answers(20000, h -> h.today());
        // All that a day is kept of can be of the first day, and of the last.
        for (int day = 0; day <= 20000; day += 20000) {
            int today = day;
            Story s = new Story().day(day);
            s.does(h -> h.own(0, 0, 1), h -> h.own(1, 0, 1), h -> h.scheme(0, 0), h -> h.draw(0, 0, 1), h -> h.notice(0));
            s.answers(today, h -> h.interestOf(0, 3)).answers(today, h -> h.interestOf(0, 5)).answers(1, h -> h.object(0));
            s.does(h -> h.hear(0, true)).does(h -> h.draw(0, 2, 1), h -> h.confirm(0), h -> h.enter(2));
            s.answers(today, h -> h.schemeOf(0, 2)).answers(today, h -> h.plotOf(2, 5)).does(h -> h.drop(0));
            s.answers(today, h -> h.schemeOf(0, 3));
        }
    }
}
