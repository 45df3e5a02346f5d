import java.util.ArrayList;
import java.util.Arrays;
import java.util.List;

/** Calls from which any number of like objects can be made. It never changes; then() and its like answer a longer one. */
final class Scene {
    static final Scene NEW = new Scene(List.of());
    /** One channel of 0 and 1 with 100 from each, delay 3, a secret of 0, and an unsigned state 1. */
    static final Scene PAIR = NEW.then("channel(3, 100, 3) = 0", "secret(0) = 0", "state(0) = 1");
    /** The same with 0, 1 and 2. */
    static final Scene TRIO = NEW.then("channel(7, 100, 3) = 0", "secret(0) = 0", "state(0) = 1");
    /** Some of all there is; see what stands beside each part. */
    static final Scene WORLD = world();

    private final List<Row> rows;

    private Scene(List<Row> rows) {
        this.rows = rows;
    }

    private static Scene world() {
        return NEW
                .then("channel(7, 1000, 3) = 0", "channel(30, 500, 2) = 1", "channel(33, 300, 4) = 2")
                .then("channel(24, 200, 5) = 3", "channel(48, 100, 6) = 4")
                .then("secret(0) = 0", "secret(1) = 1", "secret(5) = 2")
                // Channel 2 has ended by state 5, with locks held in the places 0 and 2, and a game; 6 is unsigned.
                .then("state(2) = 5", "lock(5, 0, 5, 10, 2, 50) = 0", "lock(5, 0, 5, 20, 2, 1) = 1")
                .then("lock(5, 5, 0, 30, 1, 60) = 2", "game(5, 0, 5, 40, 9) = 80").signed(5, 0, 5)
                .then("state(2) = 6", "show(5, 0) = 4", "height(4) = 4", "step(2, 0, 2) = 7")
                // Channel 0 is open: 7 is the newest, 8 is unsigned, 9 is signed by 2 alone.
                .then("state(0) = 7", "lock(7, 1, 2, 15, 0, 70) = 0", "game(7, 2, 0, 25, 7) = 50")
                .then("out(7, 0, 100) = 0", "out(7, 1, 7) = 0").signed(7, 0, 1, 2).then("agree(7, 1) = 1")
                .then("state(0) = 8", "lock(8, 0, 1, 5, 1, 9) = 1", "unlock(8, 0, false) = 15", "out(8, 2, 60) = 0")
                .then("state(0) = 9", "sign(9, 2) = 1")
                // Channel 1 is closing by its first state; 10 is the newest, 11 is unsigned.
                .then("state(1) = 10", "change(10, 1, 4, 33) = 467").signed(10, 1, 2, 3, 4)
                .then("show(1, 3) = 6", "state(1) = 11")
                .then("hop(3, 3, 4) = 1", "hop(4, 4, 5) = 2", "watch(2, true) = 0", "watch(5, true) = 0");
    }

    /** The pattern with each of the values for its sign #. */
    static String[] each(String pattern, int... values) {
        String[] texts = new String[values.length];
        for (int i = 0; i < texts.length; i++) {
            texts[i] = pattern.replace("#", Integer.toString(values[i]));
        }
        return texts;
    }

    /** The pattern with each number from the first to the last one for its sign #. */
    static String[] upTo(int first, int last, String pattern) {
        int[] values = new int[last - first + 1];
        for (int i = 0; i < values.length; i++) {
            values[i] = first + i;
        }
        return each(pattern, values);
    }

    Scene then(String... texts) {
        List<Row> longer = new ArrayList<>(rows);
        longer.addAll(Arrays.asList(Row.of(texts)));
        return new Scene(longer);
    }

    Scene times(int n, String text) {
        Scene scene = this;
        for (int i = 0; i < n; i++) {
            scene = scene.then(text);
        }
        return scene;
    }

    Scene signed(int s, int... parties) {
        return then(each("sign(" + s + ", #)", parties));
    }

    Play play() {
        Play play = new Play();
        for (Row row : rows) {
            int got = play.ask(row);
            if (row.due == null ? got < 0 : got != row.due) {
                throw new IllegalStateException("a scene does not stand: " + row.call + " answered " + got);
            }
        }
        return play;
    }

    /** An object, asked no more often than the document allows. */
    static final class Play {
        private static final int MOST_CALLS = 512;
        private final StateChannels x = new StateChannels();
        private int calls;

        int ask(Row row) {
            calls++;
            if (calls > MOST_CALLS) {
                throw new IllegalStateException("more than " + MOST_CALLS + " calls: " + row.call);
            }
            return row.on(x);
        }
    }
}
