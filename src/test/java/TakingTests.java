/** Promises 20 to 26. */
final class TakingTests {
    private TakingTests() {
    }

    static void all() {
        promise20Enter();
        promise20Land();
        promise20Charges();
        promise20Leases();
        promise20HomeTenth();
        promise20NoHomeTenth();
        promise20EntryDays();
        promise20EnterRefuses();
        promise20WhoeverWasToldLater();
        promise21Blight();
        promise21BlightDays();
        promise21BlightRefuses();
        promise22Works();
        promise22WorksRefuses();
        promise23SumAnew();
        promise23PricesOfTheValueDay();
        promise24Owed();
        promise24RowsOfDays();
        promise24LargestGain();
        promise25Advance();
        promise25AdvanceRefuses();
        promise26Settle();
        promise26SettleRefuses();
    }

    private static Story confirmed(int harm, int rise, int area, int use, int part) {
        return Beginnings.confirmed(harm, rise, area, use, part);
    }

    private static void promise20Enter() {
        Story s = confirmed(20, 10, 50, Takinghall.HOME, 50).does(h -> h.own(0, 0, 60), h -> h.charge(0, 1, 200));
        s.does(h -> h.own(0, 2, 30), h -> h.charge(0, 3, 100), h -> h.lease(0, 4, 500, 2), h -> h.own(1, 0, 100));
        s.does(h -> h.pass(21)).answers(550, h -> h.enter(0));
        s.answers(1, h -> h.plotOf(0, 2)).answers(21, h -> h.plotOf(0, 5)).answers(50, h -> h.plotOf(0, 4));
        s.answers(0, h -> h.plotOf(0, 3)).answers(150, h -> h.interestOf(0, 7)).answers(200, h -> h.interestOf(1, 7));
        s.answers(75, h -> h.interestOf(2, 7)).answers(100, h -> h.interestOf(3, 7)).answers(958, h -> h.interestOf(4, 7));
        s.answers(0, h -> h.interestOf(5, 7)).answers(1483, h -> h.total(0)).answers(25, h -> h.total(2));
        s.answers(550, h -> h.total(4)).answers(0, h -> h.total(1)).answers(0, h -> h.total(3));
    }

    private static void promise20Land() {
        // Each division is rounded down by itself: 16 of 16.2, 5 of 5.8, 2 of 2.9.
        confirmed(20, 10, 9, Takinghall.FIELD, 36).answers(19, h -> h.enter(0));
        confirmed(0, 50, 100, Takinghall.FIELD, 1).answers(0, h -> h.enter(0)).answers(0, h -> h.total(2));
        confirmed(50, 50, 100, Takinghall.FIELD, 1).answers(5, h -> h.enter(0)).answers(5, h -> h.total(2));
        confirmed(50, 0, 100, Takinghall.SHOP, 1).answers(1515, h -> h.enter(0));
        confirmed(50, 50, 100, Takinghall.SHOP, 100).answers(3000, h -> h.enter(0));
        confirmed(50, 0, 100, Takinghall.SHOP, 50).does(h -> h.price(2, 1000)).answers(75000, h -> h.enter(0));
        confirmed(50, 0, 100, Takinghall.SHOP, 50).does(h -> h.price(2, 0)).answers(0, h -> h.enter(0));
        // By the WORTH, not by the MARKET, and for each PLOT by its own SCHEME.
        Story s = new Story().does(h -> h.scheme(50, 0), h -> h.scheme(0, 50), h -> h.draw(0, 0, 50), h -> h.draw(1, 1, 50));
        s.does(h -> h.confirm(0), h -> h.confirm(1)).answers(37, h -> h.enter(0)).answers(13, h -> h.enter(1));
        s.answers(50, h -> h.total(4)).answers(50, h -> h.total(2));
    }

    private static void promise20Charges() {
        Story s = confirmed(0, 0, 50, Takinghall.HOME, 100).does(h -> h.own(0, 0, 100), h -> h.charge(0, 0, 300));
        s.does(h -> h.charge(1, 0, 5), h -> h.charge(0, 0, 900), h -> h.charge(0, 0, 7)).answers(1000, h -> h.enter(0));
        s.answers(0, h -> h.interestOf(0, 7)).answers(300, h -> h.interestOf(1, 7)).answers(0, h -> h.interestOf(2, 7));
        s.answers(700, h -> h.interestOf(3, 7)).answers(0, h -> h.interestOf(4, 7)).answers(0, h -> h.total(2));
        s.answers(700, h -> h.sumAnew(3)).answers(0, h -> h.sumAnew(4)).answers(0, h -> h.sumAnew(0));
        // What all OWNERS leave by rounding goes to the COURT, too.
        s = confirmed(0, 0, 1, Takinghall.FIELD, 100).does(h -> h.own(0, 0, 50), h -> h.own(0, 0, 50), h -> h.charge(0, 0, 2));
        s.answers(5, h -> h.enter(0)).answers(1, h -> h.interestOf(0, 7)).answers(1, h -> h.interestOf(1, 7));
        s.answers(2, h -> h.interestOf(2, 7)).answers(1, h -> h.total(2));
    }

    private static void promise20Leases() {
        Story s = confirmed(0, 0, 1, Takinghall.HOME, 100).does(h -> h.lease(0, 0, 9, 5), h -> h.lease(0, 0, 10, 5));
        s.does(h -> h.lease(0, 0, 11, 5), h -> h.lease(0, 0, 740, 100), h -> h.lease(0, 0, 741, 100), h -> h.lease(0, 0, 99, 0));
        s.does(h -> h.pass(10), h -> h.enter(0)).answers(0, h -> h.interestOf(0, 7)).answers(0, h -> h.interestOf(1, 7));
        s.answers(5, h -> h.interestOf(2, 7)).answers(73000, h -> h.interestOf(3, 7)).answers(73000, h -> h.interestOf(4, 7));
        s.answers(0, h -> h.interestOf(5, 7)).answers(20, h -> h.total(2));
        s = confirmed(0, 0, 1, Takinghall.SHOP, 1).does(h -> h.lease(0, 0, 10, 5), h -> h.lease(0, 0, 11, 5));
        s.does(h -> h.lease(0, 0, 30000, 100), h -> h.pass(10), h -> h.enter(0)).answers(0, h -> h.interestOf(0, 7));
        s.answers(455, h -> h.interestOf(1, 7)).answers(82000, h -> h.interestOf(2, 7)).answers(455, h -> h.sumAnew(1));
        s.answers(82000, h -> h.sumAnew(2)).does(h -> h.pass(900)).answers(455, h -> h.sumAnew(1));
    }

    private static void promise20HomeTenth() {
        // Told 365 days ahead, while it was a FIELD, and once more 364 days ahead.
        Story s = new Story().does(h -> h.own(0, 0, 33), h -> h.pass(1), h -> h.own(0, 0, 33), h -> h.plot(0, 7, 1));
        s.does(h -> h.scheme(50, 50), h -> h.draw(0, 0, 100), h -> h.notice(0), h -> h.notice(1), h -> h.pass(21));
        s.does(h -> h.confirm(0), h -> h.charge(0, 0, 1), h -> h.pass(343)).answers(140, h -> h.enter(0));
        s.answers(49, h -> h.interestOf(0, 7)).answers(45, h -> h.interestOf(1, 7)).answers(49, h -> h.total(2));
        s.answers(49, h -> h.sumAnew(0)).answers(45, h -> h.sumAnew(1)).does(h -> h.pass(100)).answers(45, h -> h.sumAnew(1));
        // By BLIGHT all of it is NEEDED, whatever part was drawn.
        s = new Story().does(h -> h.own(0, 0, 50), h -> h.plot(0, 10, 1), h -> h.scheme(0, 0), h -> h.draw(0, 0, 1));
        s.does(h -> h.pass(365)).answers(200, h -> h.blight(0)).answers(110, h -> h.interestOf(0, 7));
        s.answers(100, h -> h.total(2)).answers(110, h -> h.total(0));
    }

    private static void promise20NoHomeTenth() {
        Story s = confirmed(0, 0, 10, Takinghall.HOME, 99).does(h -> h.own(0, 0, 50), h -> h.pass(400));
        s.answers(198, h -> h.enter(0)).answers(99, h -> h.interestOf(0, 7));
        s = confirmed(0, 0, 10, Takinghall.SHOP, 100).does(h -> h.own(0, 0, 50), h -> h.pass(400), h -> h.enter(0));
        s.answers(150, h -> h.interestOf(0, 7));
        s = confirmed(0, 0, 10, Takinghall.FIELD, 100).does(h -> h.own(0, 0, 50), h -> h.pass(400), h -> h.enter(0));
        s.answers(25, h -> h.interestOf(0, 7));
        s = confirmed(0, 0, 10, Takinghall.HOME, 100).does(h -> h.charge(0, 0, 50), h -> h.pass(400), h -> h.enter(0));
        s.answers(50, h -> h.interestOf(0, 7));
    }

    private static void promise20EntryDays() {
        Story s = new Story().does(h -> h.scheme(0, 0), h -> h.draw(0, 0, 10), h -> h.draw(0, 1, 10), h -> h.pass(7));
        s.does(h -> h.confirm(0), h -> h.pass(1000), h -> h.pass(95)).answers(5, h -> h.enter(0)).does(h -> h.pass(1));
        s.refuses(Story.STATE, h -> h.enter(1)).answers(0, h -> h.plotOf(1, 3));
    }

    private static void promise20EnterRefuses() {
        Story s = new Story().does(h -> h.own(0, 0, 1), h -> h.scheme(0, 0), h -> h.draw(0, 0, 10));
        s.refuses(Story.INDEX, h -> h.enter(-1)).refuses(Story.INDEX, h -> h.enter(36)).refuses(Story.STATE, h -> h.enter(1));
        s.refuses(Story.STATE, h -> h.enter(0)).does(h -> h.notice(0), h -> h.pass(21), h -> h.confirm(0));
        s.does(h -> h.enter(0)).refuses(Story.STATE, h -> h.enter(0)).does(h -> h.drop(0));
        s.refuses(Story.STATE, h -> h.enter(0)).does(h -> h.accept(0)).refuses(Story.STATE, h -> h.enter(0));
        new Story().does(h -> h.scheme(0, 0), h -> h.draw(0, 0, 10), h -> h.confirm(0), h -> h.drop(0))
                .refuses(Story.STATE, h -> h.enter(0));
    }

    private static void promise20WhoeverWasToldLater() {
        // Behind a notice to others, and behind the confirmation.
        Story s = new Story().does(h -> h.own(0, 0, 50), h -> h.scheme(0, 0), h -> h.draw(0, 0, 100), h -> h.notice(0));
        s.does(h -> h.own(0, 1, 20), h -> h.notice(1), h -> h.pass(21), h -> h.confirm(0), h -> h.own(0, 2, 20));
        s.does(h -> h.charge(0, 3, 10)).answers(50, h -> h.enter(0)).answers(20, h -> h.interestOf(0, 7));
        s.answers(8, h -> h.interestOf(1, 7)).answers(8, h -> h.interestOf(2, 7)).answers(10, h -> h.interestOf(3, 7));
        s.answers(4, h -> h.total(2)).answers(-1, h -> h.interestOf(2, 5));
    }

    private static void promise21Blight() {
        // In a DRAFT, though an objection is OPEN; the harm counts of nothing, as all is NEEDED.
        Story s = new Story().does(h -> h.plot(0, 10, 1), h -> h.own(0, 0, 50), h -> h.scheme(50, 0), h -> h.draw(0, 0, 5));
        s.does(h -> h.charge(0, 7, 30), h -> h.pass(180), h -> h.notice(0), h -> h.object(0)).answers(200, h -> h.blight(0));
        s.answers(1, h -> h.plotOf(0, 2)).answers(0, h -> h.plotOf(0, 3)).answers(100, h -> h.plotOf(0, 4));
        s.answers(180, h -> h.plotOf(0, 5)).answers(85, h -> h.interestOf(0, 7)).answers(30, h -> h.interestOf(1, 7));
        s.answers(85, h -> h.total(2)).answers(200, h -> h.total(4)).answers(115, h -> h.total(0)).answers(1, h -> h.schemeOf(0, 1));
        // However long ago the SCHEME was CONFIRMED.
        s = confirmed(0, 0, 10, Takinghall.HOME, 5).does(h -> h.own(0, 0, 50), h -> h.pass(1000), h -> h.pass(1000));
        s.refuses(Story.STATE, h -> h.enter(0)).answers(200, h -> h.blight(0)).answers(110, h -> h.interestOf(0, 7));
    }

    private static void promise21BlightDays() {
        Story s = new Story().does(h -> h.plot(0, 10, 1), h -> h.pass(1), h -> h.own(0, 0, 50), h -> h.pass(1));
        s.does(h -> h.own(0, 0, 50), h -> h.pass(179), h -> h.scheme(0, 0), h -> h.draw(0, 0, 5));
        s.refuses(Story.STATE, h -> h.blight(1)).answers(200, h -> h.blight(0));
    }

    private static void promise21BlightRefuses() {
        Story s = new Story().does(h -> h.plot(0, 10, 1), h -> h.own(0, 0, 50), h -> h.lease(0, 0, 999, 1));
        s.does(h -> h.charge(0, 0, 1), h -> h.own(1, 0, 100), h -> h.plot(2, 5, 2), h -> h.own(2, 0, 9), h -> h.pass(180));
        s.refuses(Story.INDEX, h -> h.blight(5)).refuses(Story.INDEX, h -> h.blight(-1)).refuses(Story.INDEX, h -> h.blight(24));
        s.refuses(Story.ARGUMENT, h -> h.blight(1)).refuses(Story.ARGUMENT, h -> h.blight(2));
        s.refuses(Story.STATE, h -> h.blight(0)).does(h -> h.scheme(0, 0), h -> h.draw(0, 0, 1), h -> h.draw(0, 1, 1));
        s.does(h -> h.draw(0, 2, 1)).refuses(Story.STATE, h -> h.blight(3)).refuses(Story.STATE, h -> h.blight(4));
        s.refuses(Story.ARGUMENT, h -> h.blight(1)).does(h -> h.blight(0)).refuses(Story.STATE, h -> h.blight(0));
        s.refuses(Story.ARGUMENT, h -> h.blight(2)).does(h -> h.drop(0)).refuses(Story.STATE, h -> h.blight(0));
        s.does(h -> h.accept(0)).refuses(Story.STATE, h -> h.blight(0));
        s = confirmed(0, 0, 10, Takinghall.HOME, 5).does(h -> h.own(0, 0, 50), h -> h.pass(500), h -> h.drop(0));
        s.refuses(Story.STATE, h -> h.blight(0));
    }

    private static void promise22Works() {
        Story s = new Story().does(h -> h.plot(0, 10, 1), h -> h.own(0, 0, 50), h -> h.scheme(0, 0), h -> h.draw(0, 0, 1));
        s.does(h -> h.scheme(0, 0), h -> h.draw(1, 1, 1), h -> h.draw(1, 2, 1), h -> h.confirm(1), h -> h.pass(180));
        // On land that was TAKEN by BLIGHT while the SCHEME is a DRAFT, too.
        s.does(h -> h.blight(0)).answers(1, h -> h.works(0)).answers(1, h -> h.plotOf(0, 6));
        s.does(h -> h.enter(1), h -> h.enter(2)).answers(2, h -> h.works(1)).does(h -> h.drop(1));
        s.answers(1, h -> h.plotOf(1, 6)).answers(0, h -> h.plotOf(2, 6)).does(h -> h.drop(0));
        // WORKS of SCHEMES that were DROPPED stay, and count.
        s.does(h -> h.scheme(0, 0), h -> h.draw(2, 3, 1), h -> h.confirm(2), h -> h.enter(3)).answers(3, h -> h.works(3));
    }

    private static void promise22WorksRefuses() {
        Story s = new Story().does(h -> h.own(2, 0, 1), h -> h.scheme(0, 0), h -> h.draw(0, 0, 1), h -> h.draw(0, 1, 1));
        s.refuses(Story.INDEX, h -> h.works(-1)).refuses(Story.INDEX, h -> h.works(36)).refuses(Story.STATE, h -> h.works(0));
        s.refuses(Story.STATE, h -> h.works(5)).does(h -> h.confirm(0)).refuses(Story.STATE, h -> h.works(0));
        s.does(h -> h.enter(0), h -> h.works(0)).refuses(Story.STATE, h -> h.works(0)).does(h -> h.enter(1), h -> h.drop(0));
        s.refuses(Story.STATE, h -> h.works(1)).does(h -> h.scheme(0, 0), h -> h.draw(1, 2, 1), h -> h.notice(0));
        s.does(h -> h.pass(21), h -> h.confirm(1), h -> h.enter(2), h -> h.drop(1)).refuses(Story.STATE, h -> h.works(2));
        s.does(h -> h.accept(2)).refuses(Story.STATE, h -> h.works(2));
    }

    private static void promise23SumAnew() {
        Story s = confirmed(20, 10, 50, Takinghall.HOME, 50).does(h -> h.own(0, 0, 60), h -> h.charge(0, 1, 200));
        s.does(h -> h.lease(0, 4, 500, 2), h -> h.own(1, 0, 100)).answers(0, h -> h.sumAnew(0)).answers(0, h -> h.sumAnew(2));
        s.does(h -> h.pass(1), h -> h.enter(0), h -> h.pass(500)).answers(210, h -> h.sumAnew(0)).answers(200, h -> h.sumAnew(1));
        s.answers(998, h -> h.sumAnew(2)).answers(0, h -> h.sumAnew(3)).does(h -> h.settle(0)).answers(210, h -> h.sumAnew(0));
        s.does(h -> h.drop(0)).answers(210, h -> h.sumAnew(0)).does(h -> h.accept(0)).answers(210, h -> h.sumAnew(0));
        s.answers(200, h -> h.sumAnew(1)).answers(998, h -> h.sumAnew(2)).changesNothingBy(h -> h.sumAnew(0), h -> h.owed(1));
        s.refuses(Story.INDEX, h -> h.sumAnew(4)).refuses(Story.INDEX, h -> h.sumAnew(-1)).refuses(Story.INDEX, h -> h.sumAnew(24));
    }

    private static void promise23PricesOfTheValueDay() {
        Story s = confirmed(0, 0, 10, Takinghall.HOME, 100).does(h -> h.own(0, 0, 50), h -> h.pass(5), h -> h.price(1, 30));
        s.does(h -> h.price(1, 40), h -> h.price(0, 900)).answers(400, h -> h.enter(0)).answers(200, h -> h.sumAnew(0));
        // A PRICE that is told later on the VALUE DAY changes the WORTH of that day, but no SUM.
        s.does(h -> h.price(1, 70)).answers(700, h -> h.worth(0, 5)).answers(200, h -> h.sumAnew(0));
        s.answers(200, h -> h.interestOf(0, 7)).does(h -> h.price(1, 0), h -> h.pass(1), h -> h.price(1, 90));
        s.answers(200, h -> h.sumAnew(0)).answers(0, h -> h.worth(0, 5)).answers(900, h -> h.worth(0, 6));
        s.answers(200, h -> h.owed(0)).answers(400, h -> h.total(4));
    }

    private static void promise24Owed() {
        Story s = confirmed(0, 0, 50, Takinghall.HOME, 100).does(h -> h.own(0, 0, 50), h -> h.charge(0, 0, 2));
        s.does(h -> h.own(1, 0, 50), h -> h.pass(9)).answers(0, h -> h.owed(0)).does(h -> h.enter(0));
        s.answers(499, h -> h.owed(0)).answers(2, h -> h.owed(1)).answers(0, h -> h.owed(2)).does(h -> h.pass(365));
        s.answers(513, h -> h.owed(0)).answers(2, h -> h.owed(1)).answers(0, h -> h.owed(2)).does(h -> h.pass(365));
        s.answers(528, h -> h.owed(0)).does(h -> h.drop(0), h -> h.accept(0)).answers(528, h -> h.owed(0));
        s.does(h -> h.settle(0)).answers(0, h -> h.owed(0)).does(h -> h.pass(1000)).answers(0, h -> h.owed(0));
        s.refuses(Story.INDEX, h -> h.owed(3)).refuses(Story.INDEX, h -> h.owed(-1)).refuses(Story.INDEX, h -> h.owed(24));
    }

    private static void promise24RowsOfDays() {
        Story s = confirmed(0, 0, 50, Takinghall.HOME, 100).does(h -> h.charge(0, 0, 1000), h -> h.enter(0), h -> h.pass(12));
        // 0.98 of a cent in the first row, and 0.98 in the second one.
        s.answers(1000, h -> h.owed(0)).does(h -> h.advance(0)).answers(100, h -> h.owed(0)).does(h -> h.pass(120));
        s.answers(100, h -> h.owed(0)).does(h -> h.pass(2)).answers(101, h -> h.owed(0));
        s = confirmed(0, 0, 50, Takinghall.HOME, 100).does(h -> h.charge(0, 0, 1000), h -> h.enter(0), h -> h.pass(13));
        s.answers(1001, h -> h.owed(0)).does(h -> h.advance(0)).answers(101, h -> h.owed(0)).does(h -> h.pass(365));
        s.answers(104, h -> h.owed(0));
        // An advance of 0 parts two rows as well.
        s = confirmed(0, 0, 50, Takinghall.HOME, 100).does(h -> h.charge(0, 0, 1), h -> h.charge(0, 0, 1), h -> h.enter(0));
        for (int i = 0; i < 17; i++) {
            int round = i;
            s.does(h -> round == 10 ? h.advance(0) : 0, h -> h.pass(1000));
        }
        s.answers(1, h -> h.owed(0)).answers(2, h -> h.owed(1));
    }

    private static void promise24LargestGain() {
        Story s = confirmed(0, 0, 100, Takinghall.HOME, 100).does(h -> h.own(0, 0, 100), h -> h.price(1, 1000), h -> h.pass(365));
        s.answers(100000, h -> h.enter(0)).does(h -> h.pass(635));
        for (int i = 0; i < 19; i++) {
            s.does(h -> h.pass(1000));
        }
        s.answers(287521, h -> h.owed(0)).answers(287521, h -> h.settle(0)).answers(287521, h -> h.total(1));
    }

    private static void promise25Advance() {
        Story s = confirmed(0, 0, 50, Takinghall.HOME, 100).does(h -> h.own(0, 0, 50), h -> h.charge(0, 0, 19));
        s.does(h -> h.lease(0, 0, 1, 1), h -> h.pass(1), h -> h.enter(0), h -> h.pass(365)).answers(441, h -> h.advance(0));
        s.answers(17, h -> h.advance(1)).answers(0, h -> h.advance(2)).answers(441, h -> h.interestOf(0, 8));
        s.answers(458, h -> h.total(1)).answers(63, h -> h.owed(0)).answers(2, h -> h.owed(1));
        // On land that is BACK, too.
        s = confirmed(0, 0, 50, Takinghall.HOME, 100).does(h -> h.own(0, 0, 50), h -> h.enter(0), h -> h.drop(0), h -> h.accept(0));
        s.answers(450, h -> h.advance(0));
    }

    private static void promise25AdvanceRefuses() {
        Story s = confirmed(0, 0, 50, Takinghall.HOME, 100).does(h -> h.own(0, 0, 50), h -> h.own(0, 0, 50), h -> h.lease(0, 0, 1, 1));
        s.refuses(Story.INDEX, h -> h.advance(3)).refuses(Story.INDEX, h -> h.advance(-1)).refuses(Story.INDEX, h -> h.advance(24));
        s.refuses(Story.STATE, h -> h.advance(0)).does(h -> h.enter(0), h -> h.advance(0)).refuses(Story.STATE, h -> h.advance(0));
        s.does(h -> h.settle(1)).refuses(Story.STATE, h -> h.advance(1)).does(h -> h.settle(0));
        s.refuses(Story.STATE, h -> h.advance(0));
        // An advance of 0 is one, too.
        s = confirmed(0, 0, 50, Takinghall.HOME, 100).does(h -> h.charge(0, 0, 1), h -> h.enter(0)).answers(0, h -> h.advance(0));
        s.refuses(Story.STATE, h -> h.advance(0));
    }

    private static void promise26Settle() {
        Story s = confirmed(0, 0, 50, Takinghall.HOME, 100).does(h -> h.own(0, 0, 50), h -> h.charge(0, 0, 20));
        s.does(h -> h.lease(0, 0, 1, 1), h -> h.pass(1), h -> h.enter(0), h -> h.pass(365), h -> h.advance(0));
        s.does(h -> h.pass(365)).answers(64, h -> h.settle(0)).answers(21, h -> h.settle(1)).answers(0, h -> h.settle(2));
        s.answers(505, h -> h.interestOf(0, 8)).answers(21, h -> h.interestOf(1, 8)).answers(526, h -> h.total(1));
        s.answers(490, h -> h.interestOf(0, 7)).answers(0, h -> h.owed(0));
        s = confirmed(0, 0, 50, Takinghall.HOME, 100).does(h -> h.own(0, 0, 50), h -> h.enter(0), h -> h.drop(0), h -> h.accept(0));
        s.answers(500, h -> h.settle(0));
    }

    private static void promise26SettleRefuses() {
        Story s = confirmed(0, 0, 50, Takinghall.HOME, 100).does(h -> h.own(0, 0, 50), h -> h.lease(0, 0, 1, 0));
        s.refuses(Story.INDEX, h -> h.settle(2)).refuses(Story.INDEX, h -> h.settle(-1)).refuses(Story.INDEX, h -> h.settle(24));
        s.refuses(Story.STATE, h -> h.settle(0)).does(h -> h.pass(1), h -> h.enter(0), h -> h.settle(0), h -> h.settle(1));
        s.refuses(Story.STATE, h -> h.settle(0)).refuses(Story.STATE, h -> h.settle(1)).does(h -> h.pass(999));
        s.refuses(Story.STATE, h -> h.settle(0));
    }
}
