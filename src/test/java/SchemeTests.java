/** Promises 11 to 19. */
final class SchemeTests {
    private SchemeTests() {
    }

    static void all() {
        promise11Scheme();
        promise12Draw();
        promise12DrawRefuses();
        promise13Notice();
        promise13NoticeRefuses();
        promise14Object();
        promise14ObjectRefuses();
        promise15Hear();
        promise15HearRefuses();
        promise16Confirm();
        promise16ConfirmRefuses();
        promise17WhoStops();
        promise17LeasesThatAreOver();
        promise18Drop();
        promise18DropTakesBackNotices();
        promise19SchemeOf();
    }

    private static void promise11Scheme() {
        Story s = new Story();
        s.refuses(Story.ARGUMENT, h -> h.scheme(-1, 0)).refuses(Story.ARGUMENT, h -> h.scheme(51, 0));
        s.refuses(Story.ARGUMENT, h -> h.scheme(0, -1)).refuses(Story.ARGUMENT, h -> h.scheme(0, 51));
        s.answers(0, h -> h.scheme(0, 50)).answers(1, h -> h.scheme(50, 0)).answers(2, h -> h.scheme(7, 7));
        s.answers(3, h -> h.scheme(1, 2)).refuses(Story.STATE, h -> h.scheme(0, 0));
        s.refuses(Story.ARGUMENT, h -> h.scheme(51, 0)).does(h -> h.drop(3)).refuses(Story.STATE, h -> h.scheme(0, 0));
    }

    private static void promise12Draw() {
        Story s = new Story().does(h -> h.scheme(0, 0), h -> h.scheme(0, 0));
        s.answers(1, h -> h.draw(0, 0, 1)).answers(2, h -> h.draw(0, 35, 100)).answers(1, h -> h.draw(1, 5, 50));
        s.answers(3, h -> h.draw(0, 6, 2)).answers(1, h -> h.plotOf(0, 4)).answers(100, h -> h.plotOf(35, 4));
        s.answers(0, h -> h.plotOf(0, 3)).answers(1, h -> h.plotOf(5, 3));
        // One that was TAKEN by BLIGHT is NEEDED by the DRAFT as before.
        s = new Story().does(h -> h.plot(0, 1, 1), h -> h.own(0, 0, 9), h -> h.scheme(0, 0), h -> h.draw(0, 0, 5));
        s.does(h -> h.pass(180), h -> h.blight(0)).answers(2, h -> h.draw(0, 1, 5));
    }

    private static void promise12DrawRefuses() {
        Story s = new Story().does(h -> h.scheme(0, 0), h -> h.scheme(0, 0), h -> h.draw(0, 0, 10));
        s.refuses(Story.INDEX, h -> h.draw(2, 1, 1)).refuses(Story.INDEX, h -> h.draw(-1, 1, 1));
        s.refuses(Story.INDEX, h -> h.draw(0, 36, 0)).refuses(Story.INDEX, h -> h.draw(0, -1, 1));
        s.refuses(Story.INDEX, h -> h.draw(4, 1, 0)).refuses(Story.ARGUMENT, h -> h.draw(0, 1, 0));
        s.refuses(Story.ARGUMENT, h -> h.draw(0, 1, 101)).refuses(Story.STATE, h -> h.draw(0, 0, 10));
        s.refuses(Story.STATE, h -> h.draw(1, 0, 20)).does(h -> h.confirm(0)).refuses(Story.STATE, h -> h.draw(0, 1, 1));
        s.refuses(Story.STATE, h -> h.draw(1, 0, 1)).does(h -> h.enter(0)).refuses(Story.STATE, h -> h.draw(1, 0, 1));
        s.does(h -> h.drop(0)).refuses(Story.STATE, h -> h.draw(1, 0, 1)).refuses(Story.STATE, h -> h.draw(0, 1, 1));
        s.refuses(Story.ARGUMENT, h -> h.draw(0, 1, 0));
        // A PLOT that is BACK cannot be drawn.
        s = new Story().does(h -> h.scheme(0, 0), h -> h.scheme(0, 0), h -> h.draw(0, 0, 10), h -> h.confirm(0));
        s.does(h -> h.own(0, 0, 1), h -> h.enter(0), h -> h.drop(0), h -> h.accept(0));
        s.refuses(Story.STATE, h -> h.draw(1, 0, 1));
    }

    private static void promise13Notice() {
        Story s = new Story().does(h -> h.own(0, 0, 1), h -> h.lease(1, 0, 5, 1), h -> h.charge(1, 0, 1));
        s.does(h -> h.scheme(0, 0), h -> h.scheme(0, 0), h -> h.draw(1, 0, 1), h -> h.draw(0, 1, 1), h -> h.pass(4));
        s.answers(1, h -> h.notice(0)).answers(0, h -> h.notice(1)).answers(4, h -> h.interestOf(0, 5));
        s.answers(4, h -> h.interestOf(1, 5)).answers(-1, h -> h.interestOf(2, 5));
        // A LEASE that is over can be notified, too.
        s.does(h -> h.lease(0, 0, 6, 1), h -> h.pass(2)).answers(1, h -> h.notice(3)).answers(6, h -> h.interestOf(3, 5));
    }

    private static void promise13NoticeRefuses() {
        Story s = new Story().does(h -> h.own(0, 0, 1), h -> h.own(1, 0, 1), h -> h.own(0, 0, 1), h -> h.scheme(0, 0));
        s.does(h -> h.draw(0, 0, 1), h -> h.notice(0), h -> h.pass(1));
        s.refuses(Story.INDEX, h -> h.notice(3)).refuses(Story.INDEX, h -> h.notice(-1)).refuses(Story.INDEX, h -> h.notice(24));
        s.refuses(Story.STATE, h -> h.notice(0)).refuses(Story.STATE, h -> h.notice(1));
        s.does(h -> h.notice(2), h -> h.pass(21), h -> h.confirm(0), h -> h.own(0, 0, 1));
        s.refuses(Story.STATE, h -> h.notice(3)).does(h -> h.enter(0)).refuses(Story.STATE, h -> h.notice(3));
        s.does(h -> h.drop(0)).refuses(Story.STATE, h -> h.notice(3));
        // A PLOT that was TAKEN by BLIGHT is not FREE, though its SCHEME is a DRAFT.
        s = new Story().does(h -> h.plot(0, 1, 1), h -> h.own(0, 0, 9), h -> h.scheme(0, 0), h -> h.draw(0, 0, 5));
        s.does(h -> h.pass(180), h -> h.blight(0)).refuses(Story.STATE, h -> h.notice(0));
    }

    private static void promise14Object() {
        Story s = new Story().does(h -> h.own(0, 0, 1), h -> h.own(0, 0, 1), h -> h.own(1, 0, 1), h -> h.own(2, 0, 1));
        s.does(h -> h.scheme(0, 0), h -> h.scheme(0, 0), h -> h.draw(0, 0, 1), h -> h.draw(0, 1, 1), h -> h.draw(1, 2, 1));
        s.does(h -> h.notice(0), h -> h.notice(1), h -> h.notice(2), h -> h.notice(3));
        s.answers(1, h -> h.object(3)).answers(1, h -> h.object(0)).does(h -> h.pass(21));
        s.answers(2, h -> h.object(1)).answers(3, h -> h.object(2)).answers(1, h -> h.interestOf(2, 6));
        s.does(h -> h.hear(1, false)).answers(0, h -> h.interestOf(1, 6));
        // Those of PLOTS that are not FREE any more do not count.
        s = new Story().does(h -> h.plot(0, 1, 1), h -> h.own(0, 0, 9), h -> h.own(1, 0, 9), h -> h.scheme(0, 0));
        s.does(h -> h.draw(0, 0, 5), h -> h.draw(0, 1, 5), h -> h.pass(180), h -> h.notice(0), h -> h.notice(1));
        s.answers(1, h -> h.object(0)).does(h -> h.blight(0)).answers(1, h -> h.object(1));
    }

    private static void promise14ObjectRefuses() {
        Story s = new Story().does(h -> h.own(0, 0, 1), h -> h.own(0, 0, 1), h -> h.own(0, 0, 1), h -> h.scheme(0, 0));
        s.does(h -> h.draw(0, 0, 1)).refuses(Story.INDEX, h -> h.object(3)).refuses(Story.INDEX, h -> h.object(-1));
        s.refuses(Story.STATE, h -> h.object(0)).does(h -> h.notice(0), h -> h.notice(1), h -> h.object(0));
        s.refuses(Story.STATE, h -> h.object(0)).does(h -> h.hear(0, false)).refuses(Story.STATE, h -> h.object(0));
        s.does(h -> h.pass(1), h -> h.notice(2), h -> h.pass(21)).refuses(Story.STATE, h -> h.object(1));
        s.does(h -> h.confirm(0)).refuses(Story.STATE, h -> h.object(2));
        s = new Story().does(h -> h.plot(0, 1, 1), h -> h.own(0, 0, 9), h -> h.scheme(0, 0), h -> h.draw(0, 0, 5));
        s.does(h -> h.pass(180), h -> h.notice(0), h -> h.blight(0)).refuses(Story.STATE, h -> h.object(0));
        s = new Story().does(h -> h.own(0, 0, 9), h -> h.scheme(0, 0), h -> h.draw(0, 0, 5), h -> h.notice(0));
        s.does(h -> h.drop(0)).refuses(Story.STATE, h -> h.object(0));
    }

    private static void promise15Hear() {
        Story s = new Story().does(h -> h.own(0, 0, 1), h -> h.own(0, 0, 1), h -> h.own(1, 0, 1), h -> h.scheme(0, 0));
        s.does(h -> h.draw(0, 0, 1), h -> h.draw(0, 1, 1), h -> h.notice(0), h -> h.notice(1), h -> h.notice(2));
        s.does(h -> h.object(0), h -> h.object(1), h -> h.object(2));
        s.answers(2, h -> h.hear(0, false)).answers(0, h -> h.interestOf(0, 6)).answers(0, h -> h.interestOf(0, 5));
        s.answers(0, h -> h.plotOf(0, 3)).answers(1, h -> h.hear(1, true));
        s.answers(-1, h -> h.plotOf(0, 3)).answers(0, h -> h.plotOf(0, 4)).answers(1, h -> h.schemeOf(0, 1));
        s.answers(-1, h -> h.interestOf(0, 5)).answers(-1, h -> h.interestOf(1, 5)).answers(0, h -> h.interestOf(1, 6));
        s.answers(0, h -> h.interestOf(2, 5)).answers(1, h -> h.interestOf(2, 6));
        // All is as if there had been none: drawn again, they can be notified and object anew.
        s.does(h -> h.pass(30)).answers(2, h -> h.draw(0, 0, 9)).refuses(Story.STATE, h -> h.object(0));
        s.answers(0, h -> h.notice(0)).answers(0, h -> h.notice(1)).answers(30, h -> h.interestOf(0, 5));
        s.answers(2, h -> h.object(0)).answers(3, h -> h.object(1)).answers(1, h -> h.hear(0, true));
        s.answers(0, h -> h.hear(2, false));
    }

    private static void promise15HearRefuses() {
        Story s = new Story().does(h -> h.own(0, 0, 1), h -> h.lease(0, 0, 30, 1), h -> h.scheme(0, 0), h -> h.draw(0, 0, 1));
        s.refuses(Story.INDEX, h -> h.hear(2, true)).refuses(Story.INDEX, h -> h.hear(-1, false));
        s.refuses(Story.STATE, h -> h.hear(0, true)).does(h -> h.notice(0), h -> h.notice(1));
        s.refuses(Story.STATE, h -> h.hear(0, true)).does(h -> h.object(0), h -> h.object(1), h -> h.hear(0, false));
        s.refuses(Story.STATE, h -> h.hear(0, false)).refuses(Story.STATE, h -> h.hear(0, true));
        // The objection of a LEASE that is over stays OPEN behind the confirmation, but is not heard.
        s.does(h -> h.pass(30), h -> h.confirm(0)).answers(1, h -> h.interestOf(1, 6));
        s.refuses(Story.STATE, h -> h.hear(1, true)).refuses(Story.STATE, h -> h.hear(1, false));
        s = new Story().does(h -> h.plot(0, 1, 1), h -> h.own(0, 0, 9), h -> h.scheme(0, 0), h -> h.draw(0, 0, 5));
        s.does(h -> h.pass(180), h -> h.notice(0), h -> h.object(0), h -> h.blight(0));
        s.refuses(Story.STATE, h -> h.hear(0, true)).does(h -> h.drop(0)).refuses(Story.STATE, h -> h.hear(0, false));
    }

    private static void promise16Confirm() {
        Story s = new Story().does(h -> h.own(0, 0, 1), h -> h.charge(1, 0, 1), h -> h.own(9, 9, 9), h -> h.scheme(0, 0));
        s.does(h -> h.draw(0, 0, 1), h -> h.draw(0, 1, 1), h -> h.draw(0, 2, 1), h -> h.notice(0), h -> h.notice(1));
        s.does(h -> h.pass(20)).refuses(Story.STATE, h -> h.confirm(0)).does(h -> h.pass(1)).answers(3, h -> h.confirm(0));
        s.answers(1, h -> h.schemeOf(0, 0)).answers(21, h -> h.schemeOf(0, 2));
        // PLOTS without INTERESTS stop nobody.
        new Story().does(h -> h.scheme(0, 0), h -> h.draw(0, 8, 1)).answers(1, h -> h.confirm(0));
        // A PLOT that is TAKEN already does not count, nor do its INTERESTS.
        s = new Story().does(h -> h.plot(0, 1, 1), h -> h.own(0, 0, 9), h -> h.scheme(0, 0), h -> h.draw(0, 0, 5));
        s.does(h -> h.draw(0, 1, 5), h -> h.pass(180), h -> h.blight(0)).answers(1, h -> h.confirm(0));
    }

    private static void promise16ConfirmRefuses() {
        Story s = new Story().does(h -> h.scheme(0, 0)).refuses(Story.INDEX, h -> h.confirm(1));
        s.refuses(Story.INDEX, h -> h.confirm(-1)).refuses(Story.INDEX, h -> h.confirm(4));
        s.refuses(Story.STATE, h -> h.confirm(0)).does(h -> h.own(0, 0, 1), h -> h.draw(0, 0, 1));
        s.refuses(Story.STATE, h -> h.confirm(0)).does(h -> h.notice(0), h -> h.object(0), h -> h.pass(21));
        s.refuses(Story.STATE, h -> h.confirm(0)).does(h -> h.hear(0, false)).answers(1, h -> h.confirm(0));
        s.refuses(Story.STATE, h -> h.confirm(0)).does(h -> h.drop(0)).refuses(Story.STATE, h -> h.confirm(0));
        // One that NEEDS TAKEN PLOTS alone.
        s = new Story().does(h -> h.plot(0, 1, 1), h -> h.own(0, 0, 9), h -> h.scheme(0, 0), h -> h.draw(0, 0, 5));
        s.does(h -> h.pass(180), h -> h.notice(0), h -> h.pass(21), h -> h.blight(0)).refuses(Story.STATE, h -> h.confirm(0));
    }

    private static void promise17WhoStops() {
        Story s = new Story().does(h -> h.own(1, 0, 1), h -> h.own(0, 0, 1), h -> h.charge(0, 0, 1), h -> h.own(5, 0, 1));
        s.does(h -> h.scheme(0, 0), h -> h.scheme(0, 0)).answers(-1, h -> h.whoStops(0));
        s.does(h -> h.draw(0, 0, 1)).answers(1, h -> h.whoStops(0)).does(h -> h.draw(0, 1, 1)).answers(0, h -> h.whoStops(0));
        s.answers(-1, h -> h.whoStops(1)).does(h -> h.notice(0), h -> h.notice(2), h -> h.pass(5), h -> h.notice(1));
        s.does(h -> h.object(1), h -> h.pass(15)).answers(0, h -> h.whoStops(0)).does(h -> h.pass(1));
        s.answers(1, h -> h.whoStops(0)).does(h -> h.pass(5)).answers(1, h -> h.whoStops(0));
        s.does(h -> h.hear(1, false)).answers(-1, h -> h.whoStops(0)).changesNothingBy(h -> h.whoStops(0));
        s.refuses(Story.INDEX, h -> h.whoStops(2)).refuses(Story.INDEX, h -> h.whoStops(-1));
        s.does(h -> h.pass(50), h -> h.charge(0, 1, 1)).answers(4, h -> h.whoStops(0)).does(h -> h.notice(4), h -> h.pass(20));
        s.answers(4, h -> h.whoStops(0)).does(h -> h.pass(1)).answers(-1, h -> h.whoStops(0));
        // None, if it is no DRAFT, though there is one that was not notified.
        s.does(h -> h.confirm(0), h -> h.own(0, 0, 1)).answers(-1, h -> h.whoStops(0));
        s.does(h -> h.drop(0)).answers(-1, h -> h.whoStops(0));
    }

    private static void promise17LeasesThatAreOver() {
        Story s = new Story().does(h -> h.lease(0, 0, 10, 1), h -> h.lease(0, 0, 40, 1), h -> h.scheme(0, 0));
        s.does(h -> h.draw(0, 0, 1), h -> h.pass(9)).answers(0, h -> h.whoStops(0)).does(h -> h.pass(1));
        s.answers(1, h -> h.whoStops(0)).does(h -> h.notice(1), h -> h.object(1), h -> h.pass(29));
        s.answers(1, h -> h.whoStops(0)).refuses(Story.STATE, h -> h.confirm(0)).does(h -> h.pass(1));
        s.answers(-1, h -> h.whoStops(0)).answers(1, h -> h.confirm(0));
        // A share or a debt is no day that could be over.
        s = new Story().does(h -> h.pass(200), h -> h.own(0, 0, 5), h -> h.charge(0, 0, 5), h -> h.scheme(0, 0));
        s.does(h -> h.draw(0, 0, 1)).answers(0, h -> h.whoStops(0)).does(h -> h.notice(0), h -> h.pass(21));
        s.answers(1, h -> h.whoStops(0));
    }

    private static void promise18Drop() {
        Story s = new Story().does(h -> h.own(0, 0, 1), h -> h.own(1, 0, 1), h -> h.lease(2, 0, 5, 1), h -> h.own(3, 0, 1));
        s.does(h -> h.scheme(0, 0), h -> h.scheme(0, 0), h -> h.draw(0, 0, 1), h -> h.draw(0, 1, 1), h -> h.draw(0, 2, 1));
        s.does(h -> h.draw(0, 3, 1), h -> h.draw(0, 4, 1), h -> h.draw(1, 5, 1), h -> h.notice(0), h -> h.notice(1));
        s.does(h -> h.notice(3), h -> h.pass(21), h -> h.confirm(0), h -> h.enter(0), h -> h.enter(1), h -> h.enter(2));
        s.does(h -> h.enter(4), h -> h.works(1), h -> h.pass(1));
        s.refuses(Story.INDEX, h -> h.drop(2)).refuses(Story.INDEX, h -> h.drop(-1));
        // OFFERED is what is TAKEN, has OWNERS and no WORKS: the PLOT 0 alone.
        s.answers(1, h -> h.drop(0)).answers(0, h -> h.plotOf(0, 7)).answers(-1, h -> h.plotOf(1, 7));
        s.answers(-1, h -> h.plotOf(2, 7)).answers(-1, h -> h.plotOf(3, 7)).answers(-1, h -> h.plotOf(4, 7));
        s.answers(2, h -> h.schemeOf(0, 0)).answers(0, h -> h.schemeOf(0, 1)).answers(22, h -> h.schemeOf(0, 3));
        s.answers(21, h -> h.schemeOf(0, 2)).answers(0, h -> h.plotOf(3, 2)).answers(1, h -> h.plotOf(2, 2));
        s.answers(1, h -> h.plotOf(5, 3)).answers(-1, h -> h.plotOf(0, 3)).refuses(Story.STATE, h -> h.drop(0));
        s.answers(0, h -> h.drop(1)).answers(-1, h -> h.plotOf(5, 3));
        // A DRAFT with a PLOT that was TAKEN by BLIGHT.
        s = new Story().does(h -> h.plot(0, 1, 1), h -> h.own(0, 0, 9), h -> h.scheme(0, 0), h -> h.draw(0, 0, 5));
        s.does(h -> h.pass(180), h -> h.blight(0)).answers(1, h -> h.drop(0)).answers(20, h -> h.plotOf(0, 8));
    }

    private static void promise18DropTakesBackNotices() {
        Story s = new Story().does(h -> h.plot(0, 1, 1), h -> h.own(0, 0, 9), h -> h.own(1, 0, 9), h -> h.own(2, 0, 9));
        s.does(h -> h.scheme(0, 0), h -> h.scheme(0, 0), h -> h.draw(0, 0, 5), h -> h.draw(0, 1, 5), h -> h.draw(1, 2, 5));
        s.does(h -> h.pass(180), h -> h.notice(0), h -> h.notice(1), h -> h.notice(2), h -> h.object(0), h -> h.object(1));
        s.does(h -> h.object(2), h -> h.blight(0), h -> h.drop(0));
        s.answers(180, h -> h.interestOf(0, 5)).answers(1, h -> h.interestOf(0, 6));
        s.answers(-1, h -> h.interestOf(1, 5)).answers(0, h -> h.interestOf(1, 6));
        s.answers(180, h -> h.interestOf(2, 5)).answers(1, h -> h.interestOf(2, 6));
        s.answers(2, h -> h.draw(1, 1, 5)).answers(1, h -> h.notice(1)).answers(2, h -> h.object(1));
    }

    private static void promise19SchemeOf() {
        Story s = new Story().does(h -> h.scheme(0, 0), h -> h.scheme(0, 0), h -> h.draw(1, 0, 1), h -> h.draw(1, 1, 1));
        s.answers(0, h -> h.schemeOf(1, 0)).answers(2, h -> h.schemeOf(1, 1)).answers(-1, h -> h.schemeOf(1, 2));
        s.answers(-1, h -> h.schemeOf(1, 3)).answers(0, h -> h.schemeOf(0, 1)).does(h -> h.pass(3), h -> h.confirm(1));
        s.answers(1, h -> h.schemeOf(1, 0)).answers(3, h -> h.schemeOf(1, 2)).answers(-1, h -> h.schemeOf(1, 3));
        s.does(h -> h.enter(0)).answers(2, h -> h.schemeOf(1, 1)).does(h -> h.pass(4), h -> h.drop(1));
        s.answers(2, h -> h.schemeOf(1, 0)).answers(0, h -> h.schemeOf(1, 1)).answers(3, h -> h.schemeOf(1, 2));
        s.answers(7, h -> h.schemeOf(1, 3)).does(h -> h.drop(0)).answers(-1, h -> h.schemeOf(0, 2));
        s.answers(7, h -> h.schemeOf(0, 3)).answers(2, h -> h.schemeOf(0, 0));
        s.refuses(Story.ARGUMENT, h -> h.schemeOf(0, 4)).refuses(Story.ARGUMENT, h -> h.schemeOf(0, -1));
        s.refuses(Story.INDEX, h -> h.schemeOf(2, 4)).refuses(Story.INDEX, h -> h.schemeOf(-1, 0));
        s.refuses(Story.INDEX, h -> h.schemeOf(4, 0));
    }
}
