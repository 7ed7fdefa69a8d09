import java.util.ArrayList;
import java.util.List;

/** All that an object tells of itself, in a row: two of which nothing else is known are the same if these are. */
final class View {
    private static final int NONE = -1;

    private final BathWater x;
    private final List<Integer> answers = new ArrayList<>();

    private View(BathWater x) {
        this.x = x;
    }

    /** Uses the object up: it is asked for its IMAGES, its SEED, its TEXT, too. */
    static List<Integer> of(BathWater x) {
        View view = new View(x);
        view.house();
        view.mornings();
        view.cases();
        view.book();
        view.eachMorning();
        view.images();
        view.text();
        return view.answers;
    }

    private void add(int answer) {
        answers.add(answer);
    }

    private void house() {
        add(x.fault());
        for (int what = 0; what <= 6; what++) {
            add(x.told(what));
        }
        for (int what = 0; what < 4; what++) {
            add(x.bath(0, what));
            add(x.bath(1, what));
        }
        for (int k = 0; k < 6; k++) {
            for (int what = 0; what < 4; what++) {
                add(x.bather(k, what));
            }
        }
        add(x.height(0, 3, 63));
        add(x.height(1, 3, 63));
        add(x.span(0, 3, 9, 0));
        add(x.span(1, 3, 9, 1));
    }

    private void mornings() {
        add(x.wrong());
        for (int height = 5; height < 100; height += 30) {
            add(x.canBe(0, 0, height, NONE));
            add(x.canBe(1, 0, height, 1));
            add(x.likely(0, 0, height, 1));
        }
        add(x.odds(63));
        add(x.odds(0));
    }

    private void cases() {
        for (int c = 0; c < 13; c++) {
            add(x.alike(c));
        }
        for (int what = 0; what < 3; what++) {
            add(x.needed(8191, what));
        }
        add(x.tells(0, 63, 6));
        add(x.away());
        add(x.called(0, 0));
        add(x.called(0, 1));
        add(x.called(50, 0));
        add(x.called(50, 1));
    }

    private void book() {
        add(x.judge());
        add(x.tear());
    }

    private void ends() {
        add(x.told(3));
        add(x.told(6));
        add(x.wrong());
        for (int k = 0; k < 6; k++) {
            add(x.bather(k, 4));
            add(x.bather(k, 5));
        }
    }

    /** What is told by the last MORNINGS alone, and by fewer of them. */
    private void eachMorning() {
        for (int left = x.told(3); left >= 0; left--) {
            ends();
            add(x.strike(0));
        }
        add(x.seed(0));
    }

    private void images() {
        for (int i = 0; i <= 1; i++) {
            add(x.goBack(i));
            ends();
            add(x.seed(i));
        }
    }

    private void text() {
        add(x.told(5));
        add(x.house());
        add(x.fault());
        for (int what = 0; what <= 5; what++) {
            add(x.told(what));
        }
        for (int k = 0; k < 6; k++) {
            add(x.bather(k, 2));
        }
    }
}
