import java.util.ArrayList;
import java.util.Arrays;
import java.util.List;

/** What is due at the edges that the document names. Each run and each refused call has an object that is made anew. */
final class Edges {
    static final int MIN = Integer.MIN_VALUE;
    static final int MAX = Integer.MAX_VALUE;
    /** 32, 33 and -32 are there because a shift takes them for 0 and 1. */
    static final int[] NO_PARTY = {-1, 6, 7, 32, 33, -32, MIN, MAX};
    static final int[] NO_PLACE = {-1, 3, 4, 32, -32, MIN, MAX};

    private static final int ASKED_AT_ONCE = 250;
    /** By how many states there are; made when first they are needed. */
    private static final Row[][] QUESTIONS = new Row[65][];
    private static final Row[][] WHAT_COMES = new Row[65][];
    private final Due due;

    Edges(String suite) {
        due = new Due(suite);
    }

    /** The sentence of the document that comes now. */
    void part(String sentence) {
        due.part(sentence);
    }

    void end() {
        due.end();
    }

    /** The numbers that are none of 0 .. n - 1. */
    static int[] noneOf(int n) {
        return new int[] {-1, n, n + 1, n + 32, n + 64, -32, MIN, MAX};
    }

    /** These calls one after the other; one without a told answer is not refused. */
    void run(Scene scene, String... rows) {
        Scene.Play play = scene.play();
        for (Row row : Row.of(rows)) {
            int got = play.ask(row);
            if (row.due == null) {
                due.holds(row.call + " is taken", got >= 0);
            } else {
                due.same(row.call, got, row.due);
            }
        }
    }

    /** Each of these calls alone is refused by this answer, and changes nothing that any call tells. */
    void refused(int want, Scene scene, String... calls) {
        refusedAs(want, scene, scene, calls);
    }

    /** The same, but that each leaves what the scene left would be. */
    void refusedAs(int want, Scene scene, Scene left, String... calls) {
        for (String call : calls) {
            int got = scene.play().ask(new Row(call));
            due.same(call, got, want);
            if (got == want) {
                likeEachOther(scene.then(call + " = " + want), left, "behind the refused " + call);
            }
        }
    }

    /** Whatever is asked of the one scene's object is answered as of the other one's. */
    void likeEachOther(Scene one, Scene other, String name) {
        int states = other.play().ask(new Row("count(1)"));
        if (QUESTIONS[states] == null) {
            QUESTIONS[states] = questions(states);
            WHAT_COMES[states] = whatComes(states);
        }
        Row[] all = QUESTIONS[states];
        for (int i = 0; i < all.length; i += ASKED_AT_ONCE) {
            ask(one, other, name, Arrays.copyOfRange(all, i, Math.min(i + ASKED_AT_ONCE, all.length)));
        }
        ask(one, other, name, WHAT_COMES[states]);
    }

    private void ask(Scene one, Scene other, String name, Row[] rows) {
        Scene.Play here = one.play();
        Scene.Play there = other.play();
        for (Row row : rows) {
            due.same(name + ": " + row.call, here.ask(row), there.ask(row));
        }
    }

    /** All that can be told. */
    private static Row[] questions(int states) {
        List<String> texts = new ArrayList<>();
        add(texts, Scene.upTo(0, 6, "count(#)"));
        add(texts, Scene.upTo(0, 5, "account(#)"));
        add(texts, Scene.upTo(0, 15, "knows(#)"));
        for (int c = 0; c < 8; c++) {
            add(texts, Scene.upTo(0, 11, "told(" + c + ", #)"));
        }
        for (int s = 0; s < states; s++) {
            add(texts, Scene.upTo(0, 9, "of(" + s + ", #)"));
            add(texts, Scene.upTo(0, 5, "share(" + s + ", #, 0)"));
            add(texts, Scene.upTo(0, 5, "share(" + s + ", #, 1)"));
            for (int place = 0; place < 3; place++) {
                add(texts, Scene.upTo(0, 4, "locked(" + s + ", " + place + ", #)"));
            }
        }
        return Row.of(texts.toArray(new String[0]));
    }

    /** What only shows in what comes next: the route, the ranks to come, what is closing, held and watched. */
    private static Row[] whatComes(int states) {
        List<String> texts = new ArrayList<>();
        texts.add("pay(1, 30)");
        add(texts, Scene.upTo(states, states + 3, "locked(#, 0, 4)"));
        add(texts, Scene.upTo(0, 7, "state(#)"));
        add(texts, Scene.upTo(states, states + 11, "of(#, 1)"));
        texts.add("secret(0)");
        for (int c = 0; c < 8; c++) {
            texts.add("told(" + c + ", 4)");
        }
        for (int i = 0; i < 22; i++) {
            texts.add("height(1)");
            add(texts, Scene.upTo(0, 5, "account(#)"));
        }
        return Row.of(texts.toArray(new String[0]));
    }

    private static void add(List<String> texts, String[] more) {
        texts.addAll(Arrays.asList(more));
    }
}
