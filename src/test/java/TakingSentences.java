/** The sentences of "Taking", and of the promises 20 to 23. */
final class TakingSentences {
    private static final int LAND = 100;

    private TakingSentences() {
    }

    /** The PLOT 0 of some WORTH, of which a SCHEME that was CONFIRMED on the day 0 NEEDS a part. */
    private static Story ofWorth(int worth, int part, int harm, int rise) {
        return new Story()
                .does(h -> h.plot(0, 1, 0), h -> h.price(0, worth), h -> h.scheme(harm, rise), h -> h.draw(0, 0, part),
                        h -> h.confirm(0));
    }

    private static void land(int due, int worth, int part, int harm, int rise) {
        ofWorth(worth, part, harm, rise).answers(due, h -> h.enter(0)).answers(due, h -> h.total(4));
    }

    /** A LAND of 100 of the PLOT 0, not TAKEN yet. */
    private static Story ofLand() {
        return ofWorth(LAND, 100, 0, 0);
    }

    private static void sums(Story s, long... due) {
        for (int i = 0; i < due.length; i++) {
            int interest = i;
            s.answers(due[interest], h -> h.interestOf(interest, 7)).answers(due[interest], h -> h.sumAnew(interest));
        }
    }

    private static Story.Call own(int share) {
        return h -> h.own(0, 0, share);
    }

    private static Story.Call lease(int until, int profit) {
        return h -> h.lease(0, 0, until, profit);
    }

    private static Story.Call charge(int debt) {
        return h -> h.charge(0, 0, debt);
    }

    private static Story homeOfAll() {
        return Beginnings.confirmed(0, 0, 10, Takinghall.HOME, 100);
    }

    /** SCHEMES that NEED all PLOTS, CONFIRMED on the day 0. */
    private static Story allConfirmed() {
        Story s = new Story().does(h -> h.scheme(0, 0));
        for (int i = 0; i < 36; i++) {
            int plot = i;
            s.does(h -> h.draw(0, plot, 1));
        }
        return s.does(h -> h.confirm(0));
    }

    @Sentence(of = "Taking", words = "To enter a PLOT takes it: it has to be FREE")
    static void enteringTakesWhatIsFree() {
        Story s = ofLand().does(own(1)).answers(0, h -> h.plotOf(0, 2)).does(h -> h.enter(0));
        s.answers(1, h -> h.plotOf(0, 2)).refuses(Story.STATE, h -> h.enter(0)).does(h -> h.works(0));
        s.refuses(Story.STATE, h -> h.enter(0));
        s = ofLand().does(own(1), h -> h.enter(0), h -> h.drop(0)).refuses(Story.STATE, h -> h.enter(0));
        s.does(h -> h.accept(0)).refuses(Story.STATE, h -> h.enter(0));
        Beginnings.home(1).day(180).does(h -> h.draw(0, 1, 1), h -> h.blight(0), h -> h.confirm(0))
                .refuses(Story.STATE, h -> h.enter(0)).answers(0, h -> h.enter(1));
    }

    @Sentence(of = "Taking", words = "and NEEDED by a SCHEME that was CONFIRMED 1095 days ago or later")
    static void enteredInThreeYears() {
        ofLand().answers(LAND, h -> h.enter(0));
        ofLand().day(1094).answers(LAND, h -> h.enter(0));
        ofLand().day(1095).answers(LAND, h -> h.enter(0));
        ofLand().day(1096).refuses(Story.STATE, h -> h.enter(0)).day(1097).refuses(Story.STATE, h -> h.enter(0));
        ofLand().day(20000).refuses(Story.STATE, h -> h.enter(0));
        // The days are counted from the confirmation on; a DRAFT has none, and a SCHEME that is DROPPED NEEDS nothing.
        Story s = new Story().does(h -> h.scheme(0, 0), h -> h.draw(0, 0, 100)).day(18905);
        s.refuses(Story.STATE, h -> h.enter(0)).does(h -> h.confirm(0)).refuses(Story.STATE, h -> h.enter(1)).day(20000);
        s.answers(50, h -> h.enter(0));
        new Story().does(h -> h.scheme(0, 0), h -> h.draw(0, 0, 100)).refuses(Story.STATE, h -> h.enter(0)).day(500)
                .refuses(Story.STATE, h -> h.enter(0));
        ofLand().does(h -> h.drop(0)).refuses(Story.STATE, h -> h.enter(0));
    }

    @Sentence(of = "Taking",
            words = "By BLIGHT an OWNER lets a PLOT be TAKEN that is FREE, a HOME, and NEEDED by a DRAFT or a CONFIRMED SCHEME")
    static void blightOfAHomeThatIsNeeded() {
        Story s = Beginnings.home(1).day(180).answers(0, h -> h.plotOf(0, 2)).answers(200, h -> h.blight(0));
        s.answers(1, h -> h.plotOf(0, 2)).refuses(Story.STATE, h -> h.blight(0)).does(h -> h.drop(0));
        s.refuses(Story.STATE, h -> h.blight(0)).does(h -> h.accept(0)).refuses(Story.STATE, h -> h.blight(0));
        homeOfAll().does(own(1)).day(180).answers(200, h -> h.blight(0));
        for (int use = 0; use < 3; use += 2) {
            Beginnings.confirmed(0, 0, 10, use, 1).does(own(1)).day(180).refuses(Story.STATE, h -> h.blight(0));
        }
        // NEEDED by none: never drawn, let go, DROPPED.
        new Story().does(h -> h.plot(0, 10, 1), own(1)).day(180).refuses(Story.STATE, h -> h.blight(0));
        Beginnings.home(1).day(180).does(h -> h.drop(0)).refuses(Story.STATE, h -> h.blight(0));
        homeOfAll().does(own(1)).day(180).does(h -> h.drop(0)).refuses(Story.STATE, h -> h.blight(0));
    }

    @Sentence(of = "Taking", words = "if the INTEREST was told 180 days ago or earlier")
    static void blightBehindHalfAYear() {
        Beginnings.home(1).refuses(Story.STATE, h -> h.blight(0)).day(179).refuses(Story.STATE, h -> h.blight(0)).day(180)
                .answers(200, h -> h.blight(0));
        Beginnings.home(1).day(181).answers(200, h -> h.blight(0));
        // The days are those of this INTEREST; the PLOT may be drawn, or a HOME, for a shorter time.
        Story s = new Story().does(own(1)).day(1).does(own(1)).day(180).does(h -> h.plot(0, 10, 1), h -> h.scheme(0, 0));
        s.does(h -> h.draw(0, 0, 1)).refuses(Story.STATE, h -> h.blight(1)).answers(200, h -> h.blight(0));
    }

    @Sentence(of = "Taking", words = "however long ago the SCHEME was CONFIRMED")
    static void blightHoweverLongAgo() {
        homeOfAll().does(own(1)).day(1095).answers(200, h -> h.blight(0));
        homeOfAll().does(own(1)).day(1096).refuses(Story.STATE, h -> h.enter(0)).answers(200, h -> h.blight(0));
        homeOfAll().does(own(1)).day(20000).refuses(Story.STATE, h -> h.enter(0)).answers(200, h -> h.blight(0));
    }

    @Sentence(of = "Taking", words = "and whatever objections are OPEN")
    static void blightWhateverObjectionsAreOpen() {
        Story s = Beginnings.home(1);
        s.does(h -> h.own(0, 2, 50), h -> h.notice(0), h -> h.notice(1), h -> h.object(0), h -> h.object(1)).day(180);
        s.refuses(Story.STATE, h -> h.confirm(0)).answers(200, h -> h.blight(0));
        s = Beginnings.home(1).does(h -> h.own(0, 2, 50), h -> h.notice(1), h -> h.object(1)).day(180);
        s.answers(200, h -> h.blight(0));
    }

    @Sentence(of = "Taking", words = "all of it is NEEDED then, 100 hundredths")
    static void blightOfAllOfIt() {
        for (int part = 1; part <= 100; part += 33) {
            int drawn = part;
            Story s = new Story().does(h -> h.plot(0, 10, 1), own(50), h -> h.scheme(50, 10), h -> h.draw(0, 0, drawn));
            s.day(180).answers(drawn, h -> h.plotOf(0, 4)).answers(200, h -> h.blight(0)).answers(100, h -> h.plotOf(0, 4));
            s.answers(100, h -> h.sumAnew(0)).does(h -> h.drop(0)).answers(200, h -> h.plotOf(0, 8));
        }
    }

    @Sentence(of = "Taking", words = "In both cases TODAY becomes its VALUE DAY")
    static void todayBecomesTheValueDay() {
        ofLand().does(h -> h.enter(0)).answers(0, h -> h.plotOf(0, 5)).day(1).answers(0, h -> h.plotOf(0, 5));
        ofLand().day(1095).does(h -> h.enter(0)).answers(1095, h -> h.plotOf(0, 5)).day(2000)
                .answers(1095, h -> h.plotOf(0, 5));
        Beginnings.home(1).day(20000).does(h -> h.blight(0)).answers(20000, h -> h.plotOf(0, 5))
                .answers(-1, h -> h.plotOf(1, 5));
    }

    @Sentence(of = "Taking", words = "its WORTH on the VALUE DAY is that by the PRICE that holds as it is TAKEN")
    static void byThePriceThatHoldsAsItIsTaken() {
        Story s = allConfirmed().does(own(100), h -> h.own(1, 0, 100), h -> h.own(2, 0, 100)).day(8);
        s.does(h -> h.price(0, 100)).answers(10, h -> h.enter(0)).does(h -> h.price(0, 200), h -> h.price(0, 300));
        s.answers(30, h -> h.enter(1)).day(9).does(h -> h.price(0, 900)).answers(90, h -> h.enter(2));
        sums(s, 10, 30, 90);
    }

    @Sentence(of = "Taking", words = "a PRICE that is told later on that day changes nothing of it, in sumAnew() either")
    static void aLaterPriceOfThatDayChangesNothing() {
        Story s = homeOfAll().does(own(50), charge(20)).day(400).does(h -> h.price(1, 30), h -> h.enter(0));
        sums(s, 154, 20);
        s.does(h -> h.price(1, 1000), h -> h.price(1, 0));
        sums(s, 154, 20);
        s.answers(300, h -> h.total(4)).answers(174, h -> h.total(0)).answers(140, h -> h.total(2)).day(401);
        s.does(h -> h.price(1, 1));
        sums(s, 154, 20);
        // On the day 0, too, on which the first PRICES hold; and by BLIGHT.
        s = homeOfAll().does(own(50), h -> h.enter(0), h -> h.price(1, 1000));
        sums(s, 100);
        s = Beginnings.home(100).day(180).does(h -> h.blight(0), h -> h.price(1, 1000));
        sums(s, 100);
        s.answers(100, h -> h.owed(0)).answers(90, h -> h.advance(0)).answers(10, h -> h.settle(0));
    }

    @Sentence(of = "Taking", words = "The SUMS of its INTERESTS are fixed then, as if there were no SCHEME.")
    static void sumsAsIfThereWereNoScheme() {
        // By the WORTH, though the MARKET is 70 hundredths of it; fixed, whatever comes.
        Story s = ofLand().does(own(50), charge(10), lease(5, 3), h -> h.own(1, 0, 50)).answers(70, h -> h.market(0));
        s.answers(0, h -> h.interestOf(0, 7)).answers(LAND, h -> h.enter(0));
        sums(s, 45, 10, 15, 0);
        s.does(h -> h.works(0)).day(900).does(h -> h.price(0, 7), h -> h.advance(0), h -> h.drop(0));
        sums(s, 45, 10, 15, 0);
        s = Beginnings.offered();
        sums(s, 25, 25);
        s.does(h -> h.accept(0), h -> h.refuse(35));
        sums(s, 25, 25);
    }

    @Sentence(of = "Taking",
            words = "The LAND is: the part, which is the WORTH on the VALUE DAY times the hundredths that are NEEDED, divided by 100")
    static void thePart() {
        land(1, 199, 1, 0, 0);
        land(99, 199, 50, 0, 0);
        land(101, 199, 51, 0, 0);
        land(197, 199, 99, 0, 0);
        land(199, 199, 100, 0, 0);
        land(0, 0, 100, 0, 0);
        land(0, 1, 99, 0, 0);
        land(1, 1, 100, 0, 0);
        land(0, 99, 1, 0, 0);
        land(1, 100, 1, 0, 0);
        Beginnings.confirmed(0, 0, 100, 2, 100).does(h -> h.price(2, 1000)).answers(100000, h -> h.enter(0));
        Beginnings.confirmed(0, 0, 100, 2, 1).does(h -> h.price(2, 1000)).answers(1000, h -> h.enter(0));
    }

    @Sentence(of = "Taking", words = "more by the harm's hundredths of the rest, which is the WORTH less the part")
    static void theHarmOfTheRest() {
        land(99, 198, 50, 0, 0);
        land(99, 198, 50, 1, 0);
        land(148, 198, 50, 50, 0);
        // The part is rounded down first: 99 of 99.5; the rest is 100.
        land(100, 199, 50, 1, 0);
        land(149, 199, 50, 50, 0);
        land(199, 199, 100, 50, 0);
        Beginnings.confirmed(50, 0, 100, 2, 1).does(h -> h.price(2, 1000)).answers(50500, h -> h.enter(0));
    }

    @Sentence(of = "Taking", words = "less the rise's hundredths of the rest")
    static void theRiseOfTheRest() {
        land(99, 198, 50, 0, 1);
        land(50, 198, 50, 0, 50);
        land(98, 199, 50, 0, 1);
        land(49, 199, 50, 0, 50);
        land(199, 199, 100, 0, 50);
        // Each is rounded down by itself.
        land(148, 198, 50, 50, 1);
        land(50, 198, 50, 1, 50);
        land(99, 198, 50, 50, 50);
        land(99, 198, 50, 1, 1);
    }

    @Sentence(of = "Taking", words = "0 at least")
    static void noLandBelowNothing() {
        land(1, LAND, 34, 0, 50);
        land(0, LAND, 33, 0, 50);
        land(0, LAND, 32, 0, 50);
        land(0, LAND, 1, 0, 50);
        land(1, LAND, 1, 50, 50);
        Story s = ofWorth(LAND, 1, 0, 50).does(own(60), charge(5), lease(3, 2), h -> h.enter(0));
        sums(s, 0, 0, 6);
        s.answers(0, h -> h.total(2)).answers(0, h -> h.total(4)).answers(6, h -> h.total(0));
    }

    @Sentence(of = "Taking",
            words = "By rising numbers each CHARGE gets its debt, or what is left of the LAND, if that is less.")
    static void chargesByRisingNumbers() {
        sums(ofLand().does(charge(99), h -> h.enter(0)), 99);
        sums(ofLand().does(charge(100), h -> h.enter(0)), 100);
        sums(ofLand().does(charge(101), h -> h.enter(0)), 100);
        sums(ofLand().does(charge(100000), charge(1), h -> h.enter(0)), 100, 0);
        sums(ofLand().does(charge(60), charge(39), charge(2), charge(1), h -> h.enter(0)), 60, 39, 1, 0);
        sums(ofLand().does(charge(60), charge(40), charge(1), h -> h.enter(0)), 60, 40, 0);
        // Not those of another PLOT; others of this one may stand between.
        sums(ofLand().does(h -> h.charge(1, 0, 100), own(100), charge(70), lease(1, 5), charge(70), h -> h.enter(0)), 0, 0,
                70, 5, 30);
    }

    @Sentence(of = "Taking", words = "Then each OWNER gets the share's hundredths of what is left behind all CHARGES")
    static void ownersBehindAllCharges() {
        sums(ofLand().does(own(1), own(99), h -> h.enter(0)), 1, 99);
        sums(ofLand().does(own(100), h -> h.enter(0)), 100);
        sums(ofLand().does(own(50), own(30), h -> h.enter(0)), 50, 30);
        // Behind those with a greater number as well; each share of 99 is rounded down.
        sums(ofLand().does(own(1), charge(1), own(50), own(49), h -> h.enter(0)), 0, 1, 49, 48);
        sums(ofLand().does(own(50), charge(20), own(50), charge(10), h -> h.enter(0)), 35, 20, 35, 10);
        sums(ofLand().does(own(100), charge(99), h -> h.enter(0)), 1, 99);
        sums(ofLand().does(own(100), charge(100), h -> h.enter(0)), 0, 100);
        sums(ofLand().does(own(100), lease(9, 9), h -> h.own(1, 0, 100), h -> h.enter(0)), 100, 81, 0);
    }

    @Sentence(of = "Taking", words = "what is left behind all that goes to the COURT")
    static void theRestGoesToTheCourt() {
        ofLand().does(h -> h.enter(0)).answers(100, h -> h.total(2));
        ofLand().does(charge(30), h -> h.enter(0)).answers(70, h -> h.total(2));
        ofLand().does(charge(100), own(9), h -> h.enter(0)).answers(0, h -> h.total(2));
        ofLand().does(own(100), h -> h.enter(0)).answers(0, h -> h.total(2));
        ofLand().does(own(60), charge(50), lease(9, 9), h -> h.enter(0)).answers(20, h -> h.total(2));
        // 99 left: two halves of 49, and 1 that nobody gets.
        ofLand().does(own(50), own(50), charge(1), h -> h.enter(0)).answers(1, h -> h.total(2));
        // Of several PLOTS together; the tenth of a HOME takes nothing from it.
        allConfirmed().does(h -> h.price(0, 1000), h -> h.enter(0)).answers(100, h -> h.total(2)).does(h -> h.enter(35))
                .answers(200, h -> h.total(2));
        homeOfAll().does(own(50)).day(365).does(h -> h.enter(0)).answers(100, h -> h.total(2));
    }

    @Sentence(of = "Taking", words = "Besides, an OWNER of a HOME of which 100 hundredths are NEEDED")
    static void theTenthOfAHomeOfWhichAllIsNeeded() {
        Story s = homeOfAll().does(own(50), charge(100), lease(366, 10)).day(365).does(h -> h.enter(0));
        sums(s, 55, 100, 10);
        sums(Beginnings.confirmed(0, 0, 10, Takinghall.HOME, 99).does(own(50)).day(365).does(h -> h.enter(0)), 99);
        sums(Beginnings.confirmed(50, 0, 10, Takinghall.HOME, 1).does(own(50)).day(365).does(h -> h.enter(0)), 50);
        sums(Beginnings.confirmed(0, 0, 10, Takinghall.FIELD, 100).does(own(100)).day(365).does(h -> h.enter(0)), 50);
        sums(Beginnings.confirmed(0, 0, 10, Takinghall.SHOP, 100).does(own(100)).day(365).does(h -> h.enter(0)), 300);
        sums(Beginnings.home(1).day(365).does(h -> h.blight(0)), 110);
    }

    @Sentence(of = "Taking", words = "who was told 365 days ahead of the VALUE DAY or earlier")
    static void theTenthOfWhoWasToldAYearAhead() {
        sums(homeOfAll().does(own(50)).day(364).does(h -> h.enter(0)), 100);
        sums(homeOfAll().does(own(50)).day(365).does(h -> h.enter(0)), 110);
        sums(homeOfAll().does(own(50)).day(366).does(h -> h.enter(0)), 110);
        sums(homeOfAll().does(own(20)).day(1).does(own(30)).day(2).does(own(50)).day(366).does(h -> h.enter(0)), 44, 66,
                100);
        sums(homeOfAll().does(own(50), h -> h.enter(0)).day(365), 100);
    }

    @Sentence(of = "Taking", words = "whatever the USE was meanwhile")
    static void theTenthWhateverTheUseWas() {
        Story s = new Story().does(h -> h.plot(0, 10, 0), own(50)).day(364).does(h -> h.plot(0, 10, 2)).day(365);
        s.does(h -> h.plot(0, 10, 1), h -> h.scheme(0, 0), h -> h.draw(0, 0, 100), h -> h.notice(0)).day(386);
        sums(s.does(h -> h.confirm(0), h -> h.enter(0)), 110);
        // A HOME for years, but none any more.
        s = new Story().does(h -> h.plot(0, 10, 1), own(50)).day(900).does(h -> h.plot(0, 10, 0), h -> h.scheme(0, 0));
        sums(s.does(h -> h.draw(0, 0, 100), h -> h.notice(0)).day(921).does(h -> h.confirm(0), h -> h.enter(0)), 25);
    }

    @Sentence(of = "Taking", words = "gets a tenth of what they got by their share")
    static void theTenthIsOfWhatTheyGot() {
        int[] byShare = {0, 9, 10, 19, 20, 99};
        for (int got : byShare) {
            Story s = Beginnings.confirmed(0, 0, 1, Takinghall.HOME, 100).does(h -> h.price(1, got), own(100)).day(365);
            sums(s.does(h -> h.enter(0)), got + got / 10);
        }
        // Of each by themselves, and behind the CHARGES: 39 and 3, twice, of 78.
        Story s = Beginnings.confirmed(0, 0, 1, Takinghall.HOME, 100).does(h -> h.price(1, 98), own(50), own(50));
        sums(s.does(charge(20)).day(365).does(h -> h.enter(0)), 42, 42, 20);
        Beginnings.confirmed(0, 0, 100, 1, 100).does(h -> h.price(1, 1000), own(100)).day(365).does(h -> h.enter(0))
                .answers(110000, h -> h.sumAnew(0)).answers(110000, h -> h.total(0));
    }

    @Sentence(of = "Taking", words = "A LEASE that is not over gets its profit for each day until it is over")
    static void aLeaseForEachDay() {
        Story s = ofLand().does(lease(11, 1), lease(12, 100), lease(110, 7), lease(110, 0));
        sums(s.day(10).does(h -> h.enter(0)), 1, 200, 700, 0);
        sums(homeOfAll().does(lease(3, 5), h -> h.enter(0)), 15);
    }

    @Sentence(of = "Taking", words = "730 days at most")
    static void aLeaseForTwoYears() {
        Story s = ofLand().does(lease(739, 1), lease(740, 1), lease(741, 1), lease(30000, 1));
        sums(s.does(lease(30000, 100)).day(10).does(h -> h.enter(0)), 729, 730, 730, 730, 73000);
    }

    @Sentence(of = "Taking", words = "and 90 days more if the USE is SHOP")
    static void aLeaseOfAShop() {
        Story s = Beginnings.confirmed(0, 0, 10, Takinghall.SHOP, 1).does(lease(11, 1), lease(739, 1), lease(740, 1));
        s.does(lease(741, 1), lease(30000, 100), lease(900, 0)).day(10).does(h -> h.enter(0));
        sums(s, 91, 819, 820, 820, 82000, 0);
        sums(Beginnings.confirmed(0, 0, 10, Takinghall.HOME, 1).does(lease(1, 1), h -> h.enter(0)), 1);
        // By the USE as it is TAKEN, not as the LEASE was told.
        s = new Story();
        s.does(h -> h.plot(0, 10, 2), lease(50, 1), h -> h.plot(0, 10, 0), h -> h.scheme(0, 0), h -> h.draw(0, 0, 1));
        sums(s.does(h -> h.notice(0)).day(21).does(h -> h.confirm(0), h -> h.enter(0)), 29);
    }

    @Sentence(of = "Taking", words = "one that is over gets 0")
    static void aLeaseThatIsOver() {
        sums(ofLand().does(lease(9, 5), lease(10, 5), lease(11, 5)).day(10).does(h -> h.enter(0)), 0, 0, 5);
        Story s = Beginnings.confirmed(0, 0, 10, Takinghall.SHOP, 1).does(lease(9, 5), lease(10, 5), lease(11, 5)).day(10);
        sums(s.does(h -> h.enter(0)), 0, 0, 455);
        // It is not less because the LEASE is over behind the VALUE DAY.
        sums(ofLand().does(lease(11, 5), h -> h.enter(0)).day(11), 55);
    }

    @Sentence(of = "Taking",
            words = "INTERESTS that were told of a FREE PLOT behind a notice to others, or behind the confirmation, have SUMS like all others.")
    static void toldBehindANoticeOrTheConfirmation() {
        Story s = new Story();
        s.does(h -> h.plot(0, 20, 0), own(10), h -> h.scheme(0, 0), h -> h.draw(0, 0, 100), h -> h.notice(0));
        s.does(own(20), lease(30, 1), charge(20), h -> h.notice(1), h -> h.notice(2), h -> h.notice(3)).day(21);
        s.does(h -> h.confirm(0), own(30), lease(31, 1), charge(30), h -> h.enter(0));
        sums(s, 5, 10, 9, 20, 15, 10, 30);
        s.answers(-1, h -> h.interestOf(4, 5)).answers(20, h -> h.total(2)).answers(99, h -> h.total(0));
        // By BLIGHT, though one of them was not notified at all.
        sums(Beginnings.home(5).day(180).does(charge(50), h -> h.blight(0)), 75, 50);
    }

    @Sentence(of = "Taking", words = "An INTEREST stays what it was told to be, also behind the taking.")
    static void anInterestStaysWhatItWas() {
        Story s = Beginnings.confirmed(0, 0, 10, 1, 100).day(3);
        s.does(h -> h.own(0, 4, 50), h -> h.lease(0, 5, 400, 2), h -> h.charge(0, 6, 9));
        s.does(h -> h.enter(0), h -> h.settle(0)).day(500).does(h -> h.drop(0));
        for (int round = 0; round < 2; round++) {
            for (int i = 0; i < 3; i++) {
                int kind = i;
                s.answers(kind, h -> h.interestOf(kind, 0)).answers(0, h -> h.interestOf(kind, 1));
                s.answers(4 + kind, h -> h.interestOf(kind, 2)).answers(3, h -> h.interestOf(kind, 3));
                s.answers(new int[] {50, 400, 9}[kind], h -> h.interestOf(kind, 4));
            }
            s.does(h -> h.plotOf(0, 2) == 1 ? h.accept(0) : 0);
        }
    }

    @Sentence(of = "Taking", words = "WORKS can begin on a PLOT that is TAKEN, has none, and whose SCHEME is not DROPPED.")
    static void whereWorksCanBegin() {
        Story s = ofLand().does(own(1)).refuses(Story.STATE, h -> h.works(1)).refuses(Story.STATE, h -> h.works(0));
        s.does(h -> h.enter(0)).answers(1, h -> h.works(0)).refuses(Story.STATE, h -> h.works(0)).does(h -> h.drop(0));
        s.refuses(Story.STATE, h -> h.works(0));
        s = ofLand().does(own(1), h -> h.enter(0), h -> h.drop(0)).refuses(Story.STATE, h -> h.works(0));
        s.does(h -> h.accept(0)).refuses(Story.STATE, h -> h.works(0));
        // However late, and for a DRAFT as well.
        ofLand().does(h -> h.enter(0)).day(20000).answers(1, h -> h.works(0));
        Beginnings.home(1).day(180).does(h -> h.blight(0)).answers(1, h -> h.works(0));
    }

    @Sentence(of = "Promise 20",
            words = {"Enters a PLOT, which takes it.", "@param plot 0 to 35", "@throws IndexOutOfBoundsException if there is no such PLOT"})
    static void enterOfThePlots() {
        Edges.hold(TakingSentences::allConfirmed, 0, 35, Story.INDEX, (h, plot) -> h.enter(plot));
    }

    @Sentence(of = "Promise 20", words = "@return the LAND")
    static void enterReturnsTheLand() {
        ofWorth(1000, 1, 0, 50).answers(0, h -> h.enter(0));
        ofWorth(1, 100, 50, 50).does(own(1), charge(9)).answers(1, h -> h.enter(0)).answers(1, h -> h.total(4));
        Beginnings.confirmed(50, 50, 100, 2, 100).does(h -> h.price(2, 1000)).answers(100000, h -> h.enter(0));
    }

    @Sentence(of = "Promise 20", words = "@throws IllegalStateException if it cannot be entered")
    static void enterRefuses() {
        Beginnings.home(1).day(400).refuses(Story.STATE, h -> h.enter(0)).refuses(Story.STATE, h -> h.enter(1));
        ofLand().day(1096).refuses(Story.STATE, h -> h.enter(0));
        Beginnings.taken().refuses(Story.STATE, h -> h.enter(0)).does(h -> h.drop(0)).refuses(Story.STATE, h -> h.enter(0))
                .does(h -> h.accept(0)).refuses(Story.STATE, h -> h.enter(0));
    }

    @Sentence(of = "Promise 21", words = {"Lets a PLOT be TAKEN by BLIGHT.", "@param interest the INTEREST of an OWNER",
        "@throws IndexOutOfBoundsException if there is no such INTEREST"})
    static void blightOfTheInterests() {
        Edges.refuse(Story::new, Story.INDEX, (h, interest) -> h.blight(interest), 0, 23);
        Edges.hold(() -> Beginnings.home(1).day(180), 0, 0, Story.INDEX, (h, interest) -> h.blight(interest));
        Story s = Beginnings.home(1);
        for (int i = 0; i < 22; i++) {
            s.does(h -> h.charge(1, 0, 1));
        }
        s.does(own(50)).day(180).refuses(Story.INDEX, h -> h.blight(24)).answers(200, h -> h.blight(23));
    }

    @Sentence(of = "Promise 21", words = "@return the LAND")
    static void blightReturnsTheLand() {
        Beginnings.home(1).day(180).answers(200, h -> h.blight(0)).answers(200, h -> h.total(4));
        Beginnings.home(1).day(180).does(h -> h.price(1, 0)).answers(0, h -> h.blight(0));
        new Story().does(h -> h.plot(0, 100, 1), h -> h.price(1, 1000), own(1), h -> h.scheme(50, 0), h -> h.draw(0, 0, 1))
                .day(180).answers(100000, h -> h.blight(0));
    }

    @Sentence(of = "Promise 21", words = "@throws IllegalArgumentException if it is not that of an OWNER")
    static void blightOfOwnersAlone() {
        Beginnings.home(1).does(lease(999, 1), charge(1), lease(1, 1)).day(180).refuses(Story.ARGUMENT, h -> h.blight(1))
                .refuses(Story.ARGUMENT, h -> h.blight(2)).refuses(Story.ARGUMENT, h -> h.blight(3))
                .answers(200, h -> h.blight(0));
    }

    @Sentence(of = "Promise 21", words = "@throws IllegalStateException if it cannot be")
    static void blightRefuses() {
        Beginnings.home(1).day(179).refuses(Story.STATE, h -> h.blight(0)).day(180).does(h -> h.drop(0))
                .refuses(Story.STATE, h -> h.blight(0));
        Beginnings.home(1).does(own(50)).day(180).does(h -> h.blight(1)).refuses(Story.STATE, h -> h.blight(0))
                .refuses(Story.STATE, h -> h.blight(1));
    }

    @Sentence(of = "Promise 22",
            words = {"@param plot 0 to 35", "@throws IndexOutOfBoundsException if there is no such PLOT"})
    static void worksOfThePlots() {
        Edges.hold(Beginnings::taken, 0, 35, Story.INDEX, (h, plot) -> h.works(plot));
    }

    @Sentence(of = "Promise 22", words = {"Begins WORKS on a PLOT.", "@return how many PLOTS have WORKS then"})
    static void worksCount() {
        Story s = allConfirmed();
        for (int i = 0; i < 36; i++) {
            int plot = i;
            s.does(h -> h.enter(plot)).answers(plot + 1, h -> h.works(plot));
        }
        // Those of SCHEMES that were DROPPED have theirs still.
        s = Beginnings.taken();
        s.does(h -> h.works(35), h -> h.drop(0), h -> h.scheme(0, 0), h -> h.draw(1, 1, 1), h -> h.confirm(1),
                h -> h.enter(1)).answers(2, h -> h.works(1));
    }

    @Sentence(of = "Promise 22", words = "@throws IllegalStateException if they cannot begin")
    static void worksRefuse() {
        allConfirmed().refuses(Story.STATE, h -> h.works(0)).does(h -> h.enter(0), h -> h.works(0))
                .refuses(Story.STATE, h -> h.works(0));
        Beginnings.offered().refuses(Story.STATE, h -> h.works(0)).does(h -> h.accept(0), h -> h.refuse(35))
                .refuses(Story.STATE, h -> h.works(0)).refuses(Story.STATE, h -> h.works(35))
                .refuses(Story.STATE, h -> h.works(1));
    }

    @Sentence(of = "Promise 23",
            words = {"@param interest its number", "@throws IndexOutOfBoundsException if there is no such INTEREST"})
    static void sumAnewOfTheInterests() {
        Edges.refuse(Story::new, Story.INDEX, (h, interest) -> h.sumAnew(interest), 0, 23);
        Edges.hold(Beginnings::drawn, 0, 2, Story.INDEX, (h, interest) -> h.sumAnew(interest));
        Edges.hold(Beginnings::taken, 0, 1, Story.INDEX, (h, interest) -> h.sumAnew(interest));
    }

    @Sentence(of = "Promise 23",
            words = "Returns a SUM, found once more from the PRICES, the VALUE DAY and the INTERESTS of its PLOT.")
    static void sumAnewIsTheSum() {
        Story s = Beginnings.confirmed(0, 0, 100, 1, 100).does(h -> h.price(1, 3));
        long[] due = new long[24];
        for (int i = 0; i < 24; i++) {
            int number = i;
            s.does(number % 3 == 0 ? own(12) : number % 3 == 1 ? lease(300 + number * 100, number) : charge(number));
        }
        // The CHARGES get 100 and leave 200: 24 for each OWNER, and 2 more for the HOME.
        s.day(365).answers(300, h -> h.enter(0));
        for (int number = 0; number < 24; number++) {
            due[number] = number % 3 == 0 ? 26 : number % 3 == 1 ? number * Math.min(730, 300 + number * 100 - 365) : number;
        }
        sums(s, due);
        s.does(h -> h.price(1, 70), h -> h.settle(0), h -> h.advance(1), h -> h.drop(0)).day(5000).does(h -> h.price(1, 1));
        sums(s, due);
    }

    @Sentence(of = "Promise 23", words = "@return the SUM; 0 if its PLOT never was TAKEN")
    static void sumAnewWithoutATaking() {
        Story s = Beginnings.notified().answers(0, h -> h.sumAnew(0)).answers(0, h -> h.sumAnew(1));
        s.answers(0, h -> h.sumAnew(2)).day(21).does(h -> h.confirm(0)).answers(0, h -> h.sumAnew(0));
        s.answers(0, h -> h.sumAnew(1)).answers(0, h -> h.sumAnew(2)).does(h -> h.enter(0)).answers(6, h -> h.sumAnew(0));
        s.answers(36, h -> h.sumAnew(1)).answers(7, h -> h.sumAnew(2)).does(h -> h.own(1, 0, 1));
        s.answers(0, h -> h.sumAnew(3));
        Beginnings.notified().does(h -> h.drop(0)).answers(0, h -> h.sumAnew(0));
        // A PLOT of a VALUE DAY 0 was TAKEN.
        ofLand().does(own(100), h -> h.enter(0)).answers(LAND, h -> h.sumAnew(0));
    }
}
