import java.util.ArrayList;
import java.util.List;

/** All that can be asked of a Takinghall without changing it, and calls that show what no question tells. */
final class Questions {
    private static final List<Story.Call> ALL = new ArrayList<>();
    private static final List<Story.Call> ON_THIS_DAY = new ArrayList<>();
    private static final List<Story.Call> ON_LATER_DAYS = new ArrayList<>();

    static {
        ALL.add(h -> h.today());
        for (int i = 0; i < 36; i++) {
            ofPlot(i);
        }
        for (int i = 0; i < 24; i++) {
            ofInterest(i);
        }
        for (int i = 0; i < 4; i++) {
            ofScheme(i);
        }
        for (int i = 0; i < 10; i++) {
            int n = i;
            ALL.add(h -> h.creditors(n));
            ALL.add(h -> h.total(n));
        }
        nextOnThisDay();
        nextOnLaterDays();
    }

    private Questions() {
    }

    private static void ofPlot(int plot) {
        for (int i = 0; i < 9; i++) {
            int what = i;
            ALL.add(h -> h.plotOf(plot, what));
        }
        ALL.add(h -> h.market(plot));
        ALL.add(h -> h.worth(plot, 0));
        ALL.add(h -> h.worth(plot, h.today() / 2));
        ALL.add(h -> h.worth(plot, h.today()));
    }

    private static void ofInterest(int interest) {
        for (int i = 0; i < 9; i++) {
            int what = i;
            ALL.add(h -> h.interestOf(interest, what));
        }
        ALL.add(h -> h.owed(interest));
        ALL.add(h -> h.sumAnew(interest));
    }

    private static void ofScheme(int scheme) {
        for (int i = 0; i < 4; i++) {
            int what = i;
            ALL.add(h -> h.schemeOf(scheme, what));
        }
        ALL.add(h -> h.whoStops(scheme));
    }

    /** PRICES, objections, confirmations, entries, WORKS and offers, as they would go on TODAY. */
    private static void nextOnThisDay() {
        for (int i = 0; i < 3; i++) {
            int use = i;
            ON_THIS_DAY.add(h -> h.price(use, 7));
        }
        for (int i = 0; i < 24; i++) {
            int interest = i;
            ON_THIS_DAY.add(h -> h.object(interest));
            ON_THIS_DAY.add(h -> h.hear(interest, false));
            ON_THIS_DAY.add(h -> h.advance(interest));
        }
        for (int i = 0; i < 36; i++) {
            int plot = i;
            ON_THIS_DAY.add(h -> h.works(plot));
            ON_THIS_DAY.add(h -> h.enter(plot));
        }
        for (int i = 0; i < 4; i++) {
            int scheme = i;
            ON_THIS_DAY.add(h -> h.drop(scheme));
        }
        for (int i = 0; i < 36; i++) {
            int plot = i;
            ON_THIS_DAY.add(h -> h.refuse(plot));
        }
        ON_THIS_DAY.add(h -> h.scheme(0, 0));
    }

    /** Notices, confirmations, BLIGHT and payments, as they would go on later days. */
    private static void nextOnLaterDays() {
        for (int i = 0; i < 24; i++) {
            int interest = i;
            ON_LATER_DAYS.add(h -> h.notice(interest));
            ON_LATER_DAYS.add(h -> h.hear(interest, false));
        }
        ON_LATER_DAYS.add(h -> h.pass(21));
        for (int i = 0; i < 4; i++) {
            int scheme = i;
            ON_LATER_DAYS.add(h -> h.confirm(scheme));
        }
        for (int i = 0; i < 24; i++) {
            int interest = i;
            ON_LATER_DAYS.add(h -> h.blight(interest));
            ON_LATER_DAYS.add(h -> h.settle(interest));
        }
        for (int i = 0; i < 36; i++) {
            int plot = i;
            ON_LATER_DAYS.add(h -> h.accept(plot));
            ON_LATER_DAYS.add(h -> h.own(plot, 0, 1));
            ON_LATER_DAYS.add(h -> h.draw(3, plot, 1));
        }
    }

    static List<Story.Call> all() {
        return ALL;
    }

    static List<List<Story.Call>> whatComesNext() {
        return List.of(ON_THIS_DAY, ON_LATER_DAYS);
    }

    static String answer(Takinghall hall, Story.Call question) {
        try {
            return Long.toString(question.on(hall));
        } catch (RuntimeException e) {
            return e.getClass().getName();
        }
    }
}
