/** Terms 1 and 4: how many there are of each, the sets, when a state counts, which is the newest, what is free. */
public final class TermEdgeTests {
    private static final Edges E = new Edges("TermEdgeTests");

    /** Eight channels, 64 states, 16 secrets, three locks in the last state. */
    private static final Scene FULL = Scene.NEW
            .then("channel(3, 100, 2) = 0", "channel(6, 100, 3) = 1", "channel(12, 100, 4) = 2", "channel(24, 100, 5) = 3")
            .then("channel(48, 10, 20) = 4", "channel(48, 10, 20) = 5", "channel(48, 10, 20) = 6", "channel(48, 10, 20) = 7")
            .times(16, "secret(5)").times(55, "state(4)").then("state(7) = 63")
            .then("lock(63, 4, 5, 1, 15, 40) = 0", "lock(63, 5, 4, 2, 15, 41) = 1", "lock(63, 4, 5, 3, 0, 42) = 2");
    private static final Scene FULL_ROUTE = FULL
            .then("hop(0, 0, 1) = 1", "hop(1, 1, 2) = 2", "hop(2, 2, 3) = 3", "hop(3, 3, 4) = 4");

    public static void main(String[] args) {
        parties();
        heightAtFirst();
        secretsAtMost();
        setsOfParties();
        channelsAtMost();
        phases();
        statesAtMost();
        ranks();
        sharesAndOuts();
        places();
        game();
        whole();
        countsWhenAllSigned();
        countsWhenWholeIsSum();
        countsWhenNotEnded();
        newestIsTheGreatestRank();
        newestIsAlwaysOne();
        free();
        nothingThereYet();
        allThereCanBe();
        behindTheLast();
        E.end();
    }

    private static void parties() {
        E.part("PARTIES 0 .. 5 have ACCOUNTS, 10000 in each at first");
        E.run(Scene.NEW, Scene.upTo(0, 5, "account(#) = 10000"));
        E.run(Scene.NEW, "count(6) = 60000");
        E.refused(-1, Scene.NEW, Scene.each("account(#)", Edges.NO_PARTY));
    }

    private static void heightAtFirst() {
        E.part("HEIGHT is 0 at first");
        E.run(Scene.NEW, "count(3) = 0", "height(1) = 1", "count(3) = 1");
    }

    private static void secretsAtMost() {
        E.part("SECRETS have numbers from 0 on, 16 at most");
        Scene fifteen = Scene.NEW;
        for (int i = 0; i < 15; i++) {
            fifteen = fifteen.then("secret(" + i % 6 + ") = " + i);
        }
        E.run(fifteen, "count(2) = 15", "secret(2) = 15", "count(2) = 16", "knows(15) = 4", "knows(14) = 4", "knows(0) = 1");
        E.refused(-4, fifteen.then("secret(2) = 15"), Scene.upTo(0, 5, "secret(#)"));
    }

    private static void setsOfParties() {
        E.part("Sets of PARTIES are numbers, bit p for PARTY p");
        for (int p = 0; p < 6; p++) {
            E.run(Scene.NEW, "secret(" + p + ") = 0", "knows(0) = " + (1 << p));
            E.run(Scene.NEW, "watch(" + p + ", true) = 0", "count(5) = " + (1 << p));
            for (int q = 0; q < p; q++) {
                pairOf(p, q);
            }
        }
    }

    private static void pairOf(int p, int q) {
        int set = 1 << p | 1 << q;
        Scene scene = Scene.NEW.then("channel(" + set + ", 7, 2) = 0");
        E.run(scene, "told(0, 3) = " + set, "of(0, 2) = " + set);
        for (int r = 0; r < 6; r++) {
            boolean in = r == p || r == q;
            E.run(scene, "share(0, " + r + ", 0) = " + (in ? 7 : -1), "account(" + r + ") = " + (in ? 9993 : 10000));
        }
        E.run(scene.then("state(0) = 1", "sign(1, " + p + ") = 1"), "of(1, 2) = " + (1 << p));
        E.run(scene, "agree(0, " + q + ") = 1", "of(0, 3) = " + (1 << q));
    }

    private static void channelsAtMost() {
        E.part("CHANNELS have numbers from 0 on, 8 at most");
        Scene scene = Scene.NEW;
        for (int c = 0; c < 7; c++) {
            scene = scene.then("channel(" + (c % 2 == 0 ? 3 : 56) + ", " + c + ", 2) = " + c);
        }
        E.run(scene, "count(0) = 7", "told(7, 0) = -1", "channel(3, 7, 2) = 7", "count(0) = 8", "told(7, 1) = 14");
        E.refused(-4, scene.then("channel(3, 7, 2) = 7"), "channel(3, 7, 2)", "channel(3, 0, 2)", "channel(60, 1, 20)");
    }

    private static void phases() {
        E.part("PHASE: 1 OPEN, 2 CLOSING, 3 ENDED");
        E.run(Scene.PAIR, "told(0, 0) = 1", "show(0, 0) = 3", "told(0, 0) = 2", "height(2)", "told(0, 0) = 2",
                "height(1)", "told(0, 0) = 3", "height(100)", "told(0, 0) = 3");
        E.run(Scene.PAIR, "agree(0, 0) = 1", "told(0, 0) = 1", "agree(0, 1) = 2", "told(0, 0) = 3");
    }

    private static void statesAtMost() {
        E.part("STATES have numbers from 0 on, 64 at most");
        Scene scene = Scene.NEW.then("channel(3, 1, 2) = 0");
        for (int s = 1; s < 63; s++) {
            scene = scene.then("state(0) = " + s);
        }
        E.run(scene, "count(1) = 63", "of(63, 0) = -1", "state(0) = 63", "count(1) = 64", "of(63, 0) = 0", "of(63, 1) = 63");
        E.refused(-4, scene.then("state(0) = 63"), "state(0)", "channel(3, 1, 2)", "channel(12, 0, 2)");
    }

    private static void ranks() {
        E.part("a RANK there: 0 the first one that was made of it, 1 the next one, and so on");
        Scene scene = Scene.NEW.then("channel(3, 9, 2) = 0", "state(0) = 1", "channel(6, 9, 2) = 1", "state(1) = 3",
                "state(0) = 4", "state(1) = 5", "hop(1, 1, 2)", "hop(0, 0, 1) = -4", "pay(1, 5)", "state(1) = 7", "state(0) = 8");
        int[] ranks = {0, 1, 0, 1, 2, 2, 3, 4, 3};
        int[] channels = {0, 0, 1, 1, 0, 1, 1, 1, 0};
        for (int s = 0; s < ranks.length; s++) {
            E.run(scene, "of(" + s + ", 1) = " + ranks[s], "of(" + s + ", 0) = " + channels[s]);
        }
    }

    private static void sharesAndOuts() {
        E.part("for each MEMBER a SHARE, and an OUT");
        Scene scene = Scene.NEW.then("channel(54, 10, 2) = 0", "state(0) = 1", "change(1, 1, 5, 3) = 7", "out(1, 5, 13) = 0");
        E.run(scene, "share(1, 1, 0) = 7", "share(1, 2, 0) = 10", "share(1, 4, 0) = 10", "share(1, 5, 0) = 13",
                "share(1, 0, 0) = -1", "share(1, 3, 0) = -1", "share(1, 1, 1) = 0", "share(1, 5, 1) = 13", "share(1, 3, 1) = -1");
    }

    private static void places() {
        E.part("three places 0 .. 2 for LOCKS");
        Scene two = Scene.PAIR.then("lock(1, 0, 1, 1, 0, 5) = 0", "lock(1, 0, 1, 2, 0, 5) = 1");
        E.run(two, "locked(1, 2, 2) = -1", "lock(1, 0, 1, 3, 0, 5) = 2", "locked(1, 2, 2) = 3", "share(1, 0, 0) = 94");
        Scene three = two.then("lock(1, 0, 1, 3, 0, 5) = 2");
        E.refused(-4, three, "lock(1, 0, 1, 4, 0, 5)", "lock(1, 1, 0, 1, 0, 1)");
        E.refused(-1, three, Scene.each("locked(1, #, 0)", Edges.NO_PLACE));
        for (int place = 0; place < 3; place++) {
            E.run(three, "unlock(1, " + place + ", false) = " + (place + 1), "lock(1, 1, 0, 9, 0, 5) = " + place);
        }
    }

    private static void game() {
        E.part("perhaps a GAME: a STAKE, a HEAP, two MEMBERS, of which it is the TURN of one");
        E.run(Scene.TRIO, "of(1, 6) = -1", "of(1, 7) = -1", "of(1, 8) = 0", "of(1, 9) = 0");
        E.run(Scene.TRIO, "game(1, 2, 0, 30, 4) = 60", "of(1, 6) = 2", "of(1, 7) = 0", "of(1, 8) = 60", "of(1, 9) = 4");
    }

    private static void whole() {
        E.part("A STATE's WHOLE is its SHARES, LOCKS and STAKE together");
        E.run(Scene.TRIO, "of(1, 5) = 300", "change(1, 0, 1, 100) = 0", "of(1, 5) = 300");
        E.run(Scene.TRIO, "lock(1, 0, 1, 1, 0, 5) = 0", "lock(1, 0, 1, 99, 0, 5) = 1", "lock(1, 2, 1, 100, 0, 5) = 2", "of(1, 5) = 300",
                "unlock(1, 1, true) = 99", "of(1, 5) = 300");
        E.run(Scene.TRIO, "game(1, 0, 1, 100, 1) = 200", "of(1, 5) = 300", "out(1, 2, 100) = 0", "of(1, 5) = 300",
                "move(1, 1) = 0", "of(1, 5) = 300");
        E.run(Scene.NEW.then("channel(3, 0, 2) = 0"), "of(0, 5) = 0");
    }

    private static void countsWhenAllSigned() {
        E.part("It COUNTS when all MEMBERS SIGNED it");
        Scene four = Scene.NEW.then("channel(45, 10, 2) = 0", "state(0) = 1");
        int[] members = {0, 2, 3, 5};
        E.run(four, "of(0, 4) = 1", "of(1, 4) = 0");
        E.run(four.signed(1, members), "of(1, 4) = 1", "told(0, 4) = 1");
        for (int left = 0; left < 4; left++) {
            Scene scene = four;
            for (int i = 1; i < 4; i++) {
                scene = scene.signed(1, members[(left + i) % 4]);
            }
            E.run(scene, "of(1, 4) = 0", "told(0, 4) = 0", "sign(1, " + members[left] + ") = 4", "of(1, 4) = 1", "told(0, 4) = 1");
        }
    }

    private static void countsWhenWholeIsSum() {
        E.part("It COUNTS when its WHOLE is the SUM of its CHANNEL");
        Scene paid = Scene.PAIR.then("state(0) = 2", "out(2, 0, 1) = 0").signed(1, 0, 1).signed(2, 0, 1).then("state(0) = 3")
                .then("agree(2, 0) = 1", "agree(2, 1) = 2");
        E.run(paid, "told(0, 1) = 199", "of(0, 5) = 200", "of(0, 4) = 0", "of(1, 5) = 200", "of(1, 4) = 0",
                "of(2, 5) = 199", "of(2, 4) = 1", "told(0, 4) = 2");
        E.run(paid, "sign(3, 0) = 1", "sign(3, 1) = 2", "of(3, 5) = 200", "of(3, 4) = 0", "told(0, 4) = 2");
        E.run(paid, "state(0) = 4", "of(4, 5) = 199", "sign(4, 0) = 1", "sign(4, 1) = 2", "of(4, 4) = 1", "told(0, 4) = 4");
        E.refused(-4, paid, "show(0, 0)", "show(1, 1)", "show(3, 0)", "agree(0, 0)", "agree(1, 1)");
    }

    private static void countsWhenNotEnded() {
        E.part("It COUNTS when its CHANNEL is not ENDED");
        Scene closing = Scene.PAIR.signed(1, 0, 1).then("show(0, 1) = 3");
        E.run(closing, "of(0, 4) = 1", "of(1, 4) = 1", "height(2) = 2", "of(0, 4) = 1", "of(1, 4) = 1",
                "height(1) = 3", "of(0, 4) = 0", "of(1, 4) = 0", "of(1, 2) = 3", "told(0, 4) = -1");
        E.part("It COUNTS when its CHANNEL is not ENDED, though its WHOLE is the SUM that is HELD");
        Scene allHeld = Scene.PAIR.then("lock(1, 0, 1, 60, 0, 50) = 0", "lock(1, 1, 0, 60, 0, 50) = 1", "game(1, 0, 1, 40, 9) = 80")
                .signed(1, 0, 1).then("agree(1, 0) = 1", "agree(1, 1) = 2");
        E.run(allHeld, "told(0, 1) = 200", "of(1, 5) = 200", "of(1, 2) = 3", "of(1, 4) = 0", "of(0, 5) = 200", "of(0, 4) = 0");
        E.run(Scene.NEW.then("channel(3, 0, 2) = 0", "agree(0, 0) = 1", "agree(0, 1) = 2"), "told(0, 1) = 0", "of(0, 5) = 0", "of(0, 4) = 0",
                "told(0, 4) = -1");
    }

    private static void newestIsTheGreatestRank() {
        E.part("THE NEWEST is the STATE that COUNTS with the greatest RANK");
        Scene three = Scene.PAIR.then("state(0) = 2", "state(0) = 3", "sign(3, 0) = 1");
        E.run(three.signed(2, 0, 1), "told(0, 4) = 2", "sign(1, 0) = 1", "sign(1, 1) = 2", "told(0, 4) = 2", "of(1, 4) = 1",
                "sign(3, 1) = 2", "told(0, 4) = 3");
        E.run(three.signed(1, 0, 1), "told(0, 4) = 1", "sign(2, 0) = 1", "told(0, 4) = 1", "sign(2, 1) = 2", "told(0, 4) = 2");
        E.run(three.then("channel(3, 5, 2) = 1").signed(1, 0, 1), "told(1, 4) = 4", "told(0, 4) = 1");
    }

    private static void newestIsAlwaysOne() {
        E.part("there is always one");
        E.run(Scene.NEW.then("channel(3, 0, 2) = 0"), "told(0, 4) = 0", "show(0, 0) = 2", "told(0, 4) = 0", "height(1)", "told(0, 4) = 0",
                "height(1)", "told(0, 4) = -1");
        E.run(Scene.PAIR.then("out(1, 0, 100) = 0", "out(1, 1, 100) = 0").signed(1, 0, 1).then("agree(1, 0) = 1", "agree(1, 1) = 2"),
                "told(0, 1) = 0", "told(0, 0) = 1", "told(0, 4) = 1", "of(1, 4) = 1", "of(1, 5) = 0", "of(0, 4) = 0");
    }

    private static void free() {
        E.part("FREE of a MEMBER in a STATE is its SHARE less its OUT");
        Scene scene = Scene.TRIO.then("change(1, 1, 0, 20) = 80", "out(1, 0, 50) = 0");
        E.run(scene, "change(1, 0, 1, 70) = 50");
        E.refused(-4, scene, "change(1, 0, 1, 71)", "lock(1, 0, 2, 71, 0, 1)", "game(1, 0, 2, 71, 1)", "game(1, 2, 0, 71, 1)");
        E.run(scene, "lock(1, 0, 2, 70, 0, 1) = 0", "share(1, 0, 0) = 50", "share(1, 0, 1) = 50");
        E.run(scene, "game(1, 0, 2, 70, 1) = 140", "share(1, 0, 0) = 50");
        E.run(scene, "game(1, 2, 0, 70, 1) = 140", "share(1, 0, 0) = 50");
        E.refused(-4, scene.then("change(1, 0, 1, 70) = 50"), "change(1, 0, 1, 1)", "lock(1, 0, 1, 1, 0, 1)", "game(1, 0, 1, 1, 1)");
    }

    private static void nothingThereYet() {
        E.part("nothing is there yet");
        E.refused(-1, Scene.NEW, "state(0)", "change(0, 0, 1, 1)", "lock(0, 0, 1, 1, 0, 1)", "unlock(0, 0, true)",
                "game(0, 0, 1, 1, 1)", "move(0, 1)", "out(0, 0, 0)", "sign(0, 0)", "show(0, 0)", "agree(0, 0)",
                "tell(0, 0, 1)", "claim(0, 0, 0)", "step(0, 0, 1)", "hop(0, 0, 1)");
        E.refused(-1, Scene.NEW, "told(0, 0)", "of(0, 0)", "share(0, 0, 0)", "locked(0, 0, 0)", "knows(0)");
        E.refused(-4, Scene.NEW, "pay(1, 1)");
    }

    private static void allThereCanBe() {
        E.part("all there can be: 8 CHANNELS, 64 STATES, 16 SECRETS, 4 HOPS, three LOCKS");
        E.run(FULL_ROUTE, "count(0) = 8", "count(1) = 64", "count(2) = 16", "count(4) = 4", "count(6) = 60000");
        E.refused(-4, FULL_ROUTE, "channel(48, 0, 2)", "secret(0)", "lock(63, 4, 5, 1, 0, 1)", "hop(4, 4, 5)");
        E.refused(-4, FULL_ROUTE, Scene.upTo(0, 7, "state(#)"));
        E.refusedAs(-4, FULL_ROUTE, FULL, "pay(1, 1)");
    }

    private static void behindTheLast() {
        E.part("the last CHANNEL, STATE, SECRET and place there can be are used as others are");
        E.refused(-1, FULL, "state(8)", "told(8, 0)", "hop(8, 0, 1)", "claim(8, 0, 0)", "step(8, 0, 1)", "of(64, 0)", "sign(64, 4)",
                "share(64, 4, 0)", "locked(64, 0, 0)", "locked(63, 3, 0)", "unlock(63, 3, true)", "knows(16)", "tell(16, 5, 0)");
        E.run(FULL, "tell(15, 5, 4) = 1", "knows(15) = 48", "sign(63, 4) = 1", "sign(63, 5) = 2", "told(7, 4) = 63", "show(63, 5) = 20",
                "height(20) = 20", "told(7, 0) = 3", "told(7, 7) = 7", "claim(7, 1, 4) = 2", "claim(7, 2, 5) = 3", "claim(7, 0, 5) = 1",
                "knows(15) = 63", "knows(0) = 63", "knows(1) = 32", "told(7, 1) = 0", "count(6) = 60000");
    }
}
