import java.util.ArrayList;
import java.util.List;

/** All that can be asked of a Takinghall without changing it. */
final class Questions {
    private static final List<Story.Call> ALL = new ArrayList<>();

    static {
        ALL.add(h -> h.today());
        for (int i = 0; i < 36; i++) {
            ofPlot(i);
        }
        for (int i = 0; i < 24; i++) {
            ofInterest(i);
        }
        for (int i = 0; i < 4; i++) {
            ofScheme(i);
        }
        for (int i = 0; i < 10; i++) {
            int n = i;
            ALL.add(h -> h.creditors(n));
            ALL.add(h -> h.total(n));
        }
    }

    private Questions() {
    }

    private static void ofPlot(int plot) {
        for (int i = 0; i < 9; i++) {
            int what = i;
            ALL.add(h -> h.plotOf(plot, what));
        }
        ALL.add(h -> h.market(plot));
        ALL.add(h -> h.worth(plot, 0));
        ALL.add(h -> h.worth(plot, h.today() / 2));
        ALL.add(h -> h.worth(plot, h.today()));
    }

    private static void ofInterest(int interest) {
        for (int i = 0; i < 9; i++) {
            int what = i;
            ALL.add(h -> h.interestOf(interest, what));
        }
        ALL.add(h -> h.owed(interest));
        ALL.add(h -> h.sumAnew(interest));
    }

    private static void ofScheme(int scheme) {
        for (int i = 0; i < 4; i++) {
            int what = i;
            ALL.add(h -> h.schemeOf(scheme, what));
        }
        ALL.add(h -> h.whoStops(scheme));
    }

    static List<Story.Call> all() {
        return ALL;
    }

    static String answer(Takinghall hall, Story.Call question) {
        try {
            return Long.toString(question.on(hall));
        } catch (RuntimeException e) {
            return e.getClass().getName();
        }
    }
}
