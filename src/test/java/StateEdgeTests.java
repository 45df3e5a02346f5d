/** Promises 1 to 9 at the edges that the document names: bounds, refusals, and which of two refusals comes first. */
public final class StateEdgeTests {
    private static final Edges E = new Edges("StateEdgeTests");
    private static final int MIN = Edges.MIN;
    private static final int MAX = Edges.MAX;

    /** One channel of 0 to 3 with 10000 from each, and an unsigned state 1 in which 0 has all. */
    private static final Scene RICH = Scene.NEW.then("channel(15, 10000, 20) = 0", "secret(0) = 0", "state(0) = 1")
            .then("change(1, 1, 0, 10000) = 0", "change(1, 2, 0, 10000) = 0", "change(1, 3, 0, 10000) = 0");
    /** A channel that both agreed to end, with an unsigned state 1 that has a lock and a game. */
    private static final Scene ENDED = Scene.PAIR.then("lock(1, 0, 1, 5, 0, 9) = 0", "game(1, 0, 1, 10, 5) = 20")
            .then("agree(0, 0) = 1", "agree(0, 1) = 2");
    /** All 64 states; channel 1 has ended. */
    private static final Scene NO_STATE_LEFT = Scene.NEW.then("channel(3, 100, 2) = 0", "channel(3, 100, 2) = 1")
            .then("agree(1, 0) = 1", "agree(1, 1) = 2").times(62, "state(0)");

    public static void main(String[] args) {
        newObject();
        channelSet();
        channelDeposit();
        channelDelay();
        channelMembers();
        channelEighth();
        channelStates();
        channelAccounts();
        channelOrder();
        channelFirstState();
        stateNumber();
        stateEnded();
        stateRoom();
        stateAsNewest();
        changeWho();
        changeAmount();
        changeFree();
        changeOrder();
        lockWho();
        lockAmount();
        lockExpiry();
        lockFree();
        lockPlace();
        lockOrder();
        unlockWhich();
        unlockWhose();
        unlockOrder();
        gameWho();
        gameAmount();
        gameHeap();
        gameFree();
        gameOnlyOne();
        gameOrder();
        moveTake();
        moveLast();
        moveNone();
        moveOrder();
        outWho();
        outAmount();
        outShare();
        outOrder();
        changedWhenSigned();
        changedWhenEnded();
        changedWhenClosing();
        E.end();
    }

    private static void newObject() {
        E.part("1: No CHANNELS, STATES, SECRETS; nobody is WATCHED");
        E.run(Scene.NEW, "count(0) = 0", "count(1) = 0", "count(2) = 0", "count(4) = 0", "count(5) = 0");
        E.run(Scene.NEW, Scene.upTo(0, 5, "watch(#, false) = 0"));
    }

    // ---- 2 channel

    private static void channelSet() {
        E.part("2: -1 set (not of PARTIES)");
        E.refused(-1, Scene.NEW, Scene.each("channel(#, 1, 2)", -1, -2, 64, 65, 67, 96, 128, 1 << 30 | 3, MIN, MIN + 3, MAX));
        E.run(Scene.NEW, "channel(60, 1, 2) = 0", "told(0, 3) = 60");
    }

    private static void channelDeposit() {
        E.part("2: -3 v (0 to 10000)");
        E.run(Scene.NEW, "channel(15, 0, 2) = 0", "told(0, 1) = 0", "share(0, 3, 0) = 0", "account(3) = 10000");
        E.run(Scene.NEW, "channel(15, 10000, 2) = 0", "told(0, 1) = 40000", "share(0, 3, 0) = 10000", "account(3) = 0");
        E.refused(-3, Scene.NEW, Scene.each("channel(15, #, 2)", -1, 10001, MIN, MAX));
    }

    private static void channelDelay() {
        E.part("2: -3 delay (2 to 20)");
        E.run(Scene.NEW, "channel(3, 1, 2) = 0", "told(0, 2) = 2", "show(0, 0) = 2", "height(2)", "told(0, 0) = 3");
        E.run(Scene.NEW, "channel(3, 1, 20) = 0", "told(0, 2) = 20", "show(0, 0) = 20", "height(19)", "told(0, 0) = 2", "height(1)",
                "told(0, 0) = 3");
        E.refused(-3, Scene.NEW, Scene.each("channel(3, 1, #)", 1, 0, -1, 21, MIN, MAX));
    }

    private static void channelMembers() {
        E.part("2: -3 how many MEMBERS (2 to 4)");
        for (int set = 0; set < 64; set++) {
            int many = Integer.bitCount(set);
            if (many < 2 || many > 4) {
                E.refused(-3, Scene.NEW, "channel(" + set + ", 1, 2)");
            } else {
                E.run(Scene.NEW, "channel(" + set + ", 5, 2) = 0", "told(0, 3) = " + set, "told(0, 1) = " + 5 * many);
            }
        }
    }

    private static void channelEighth() {
        E.part("2: -4 8 CHANNELS");
        Scene seven = Scene.NEW.times(7, "channel(3, 1, 2)");
        E.run(seven, "channel(3, 1, 2) = 7", "account(0) = 9992");
        E.refused(-4, seven.then("channel(3, 1, 2) = 7"), "channel(3, 1, 2)", "channel(60, 0, 20)");
        E.refused(-4, seven.then("channel(3, 1, 2) = 7", "agree(7, 0)", "agree(7, 1)"), "channel(3, 1, 2)");
    }

    private static void channelStates() {
        E.part("2: -4 64 STATES");
        Scene last = Scene.NEW.then("channel(3, 1, 2) = 0").times(62, "state(0)");
        E.run(last, "channel(3, 1, 2) = 1", "told(1, 4) = 63", "of(63, 0) = 1", "of(63, 1) = 0", "of(63, 4) = 1", "count(1) = 64");
        E.refused(-4, last.then("state(0) = 63"), "channel(3, 1, 2)", "channel(12, 0, 2)");
    }

    private static void channelAccounts() {
        E.part("2: -4 an ACCOUNT with less than v");
        Scene poor = Scene.NEW.then("channel(9, 6000, 2) = 0");
        E.run(poor, "channel(15, 4000, 2) = 1", "account(0) = 0", "account(1) = 6000", "account(3) = 0", "channel(9, 0, 2) = 2");
        E.refused(-4, poor, "channel(3, 4001, 2)", "channel(24, 4001, 2)",
                "channel(10, 4001, 2)", "channel(46, 4001, 2)", "channel(9, 10000, 2)");
        E.run(poor, "channel(54, 10000, 2) = 1", "account(5) = 0");
        E.refused(-4, Scene.NEW.then("channel(48, 10000, 2) = 0"), "channel(33, 1, 2)", "channel(17, 1, 2)");
    }

    private static void channelOrder() {
        E.part("2: the first of these that holds");
        E.refused(-1, Scene.NEW, "channel(64, -1, 2)", "channel(64, 1, 1)", "channel(-1, 10001, 21)", "channel(127, 1, 2)");
        Scene full = Scene.NEW.times(8, "channel(3, 1000, 2)");
        E.refused(-1, full, "channel(64, 1, 2)", "channel(-1, -1, 1)");
        E.refused(-3, full, "channel(3, -1, 2)", "channel(3, 1, 1)", "channel(1, 1, 2)", "channel(3, 10001, 2)", "channel(63, 1, 2)");
        E.refused(-3, Scene.NEW.then("channel(3, 1, 2) = 0").times(63, "state(0)"), "channel(3, 1, 21)", "channel(0, 1, 2)");
        Scene poor = Scene.NEW.then("channel(3, 10000, 2) = 0");
        E.refused(-3, poor, "channel(3, 10001, 2)", "channel(3, 1, 1)", "channel(1, 1, 2)", "channel(31, 1, 2)");
        E.refused(-1, poor, "channel(67, 1, 2)");
    }

    private static void channelFirstState() {
        E.part("2: its first STATE has SHARES v, no OUT, no LOCKS, no GAME, and all SIGNED it");
        Scene scene = Scene.NEW.then("channel(50, 7, 9) = 0");
        E.run(scene, "share(0, 1, 0) = 7", "share(0, 4, 0) = 7", "share(0, 5, 0) = 7", "share(0, 1, 1) = 0", "share(0, 4, 1) = 0",
                "share(0, 5, 1) = 0", "locked(0, 0, 0) = -1", "locked(0, 1, 0) = -1", "locked(0, 2, 0) = -1");
        E.run(scene, "of(0, 0) = 0", "of(0, 1) = 0", "of(0, 2) = 50", "of(0, 3) = 0", "of(0, 4) = 1", "of(0, 5) = 21",
                "of(0, 6) = -1", "of(0, 7) = -1", "of(0, 8) = 0", "of(0, 9) = 0");
    }

    // ---- 3 state

    private static void stateNumber() {
        E.part("3: -1 there is no such CHANNEL");
        E.refused(-1, Scene.WORLD, Scene.each("state(#)", Edges.noneOf(5)));
        E.run(Scene.WORLD, "state(4) = 12", "of(12, 0) = 4");
        E.refused(-1, NO_STATE_LEFT, "state(2)", "state(-1)");
    }

    private static void stateEnded() {
        E.part("3: -2 ENDED");
        E.refused(-2, Scene.WORLD, "state(2)");
        E.refused(-2, ENDED, "state(0)");
        E.run(Scene.WORLD, "state(1) = 12", "told(1, 0) = 2");
    }

    private static void stateRoom() {
        E.part("3: -4 64 STATES; -2 comes first");
        E.refused(-4, NO_STATE_LEFT, "state(0)");
        E.refused(-2, NO_STATE_LEFT, "state(1)");
    }

    private static void stateAsNewest() {
        E.part("3: as THE NEWEST (SHARES, LOCKS, GAME), no OUT, SIGNED by nobody");
        Scene scene = Scene.TRIO.then("lock(1, 0, 1, 1, 0, 5) = 0", "lock(1, 1, 2, 2, 0, 6) = 1", "lock(1, 2, 0, 3, 0, 7) = 2")
                .then("unlock(1, 0, true) = 1", "unlock(1, 1, false) = 2", "game(1, 1, 2, 4, 8) = 8", "move(1, 3) = 5", "out(1, 0, 99) = 0")
                .signed(1, 0, 1, 2).then("agree(1, 0) = 1", "state(0) = 2");
        E.run(scene, "of(2, 1) = 2", "of(2, 2) = 0", "of(2, 3) = 0", "of(2, 4) = 0", "of(2, 5) = 300", "of(2, 6) = 2", "of(2, 7) = 1",
                "of(2, 8) = 8", "of(2, 9) = 5");
        E.run(scene, "share(2, 0, 0) = 99", "share(2, 1, 0) = 97", "share(2, 2, 0) = 93", "share(2, 0, 1) = 0", "share(1, 0, 1) = 99");
        E.run(scene, "locked(2, 0, 0) = -1", "locked(2, 1, 0) = -1", "locked(2, 2, 0) = 2", "locked(2, 2, 1) = 0", "locked(2, 2, 2) = 3",
                "locked(2, 2, 3) = 0", "locked(2, 2, 4) = 7");
        E.run(scene, "unlock(2, 2, true) = 3", "move(2, 2) = 3", "change(2, 0, 1, 9) = 93", "locked(1, 2, 2) = 3", "of(1, 9) = 5",
                "of(1, 6) = 2", "share(1, 0, 0) = 99");
    }

    // ---- 4 change

    private static void changeWho() {
        E.part("4: -1");
        E.refused(-1, Scene.TRIO, Scene.each("change(#, 0, 1, 1)", Edges.noneOf(2)));
        E.refused(-1, Scene.TRIO, Scene.each("change(1, #, 1, 1)", Edges.NO_PARTY));
        E.refused(-1, Scene.TRIO, Scene.each("change(1, 1, #, 1)", Edges.NO_PARTY));
        E.refused(-1, Scene.TRIO, "change(1, 3, 1, 1)", "change(1, 5, 1, 1)", "change(1, 1, 3, 1)", "change(1, 1, 5, 1)");
    }

    private static void changeAmount() {
        E.part("4: -3 v (1 to 60000)");
        E.run(Scene.TRIO, "change(1, 0, 2, 1) = 99", "share(1, 2, 0) = 101");
        E.run(RICH, "share(1, 0, 0) = 40000", "change(1, 0, 1, 40000) = 0", "share(1, 1, 0) = 40000", "of(1, 5) = 40000");
        E.refused(-3, RICH, Scene.each("change(1, 0, 1, #)", 0, -1, 60001, MIN, MAX));
        E.refused(-4, RICH, "change(1, 0, 1, 60000)", "change(1, 0, 1, 40001)");
    }

    private static void changeFree() {
        E.part("4: -4 the same one, FREE is less than v");
        E.refused(-4, Scene.TRIO, "change(1, 0, 0, 1)", "change(1, 2, 2, 100)", "change(1, 2, 2, 101)", "change(1, 0, 1, 101)");
        E.run(Scene.TRIO, "change(1, 0, 1, 100) = 0", "change(1, 0, 1, 1) = -4", "change(1, 1, 0, 200) = 0");
        Scene out = Scene.TRIO.then("out(1, 0, 40) = 0");
        E.refused(-4, out, "change(1, 0, 1, 61)", "change(1, 0, 1, 100)");
        E.run(out, "change(1, 0, 1, 60) = 40", "change(1, 1, 0, 160) = 0");
        E.refused(-4, Scene.TRIO.then("out(1, 0, 100) = 0"), "change(1, 0, 1, 1)");
    }

    private static void changeOrder() {
        E.part("4: the first of these that holds");
        E.refused(-1, Scene.WORLD, "change(0, 0, 3, 1)", "change(0, 3, 0, 0)", "change(6, 0, 1, 1)", "change(8, 0, 3, 0)",
                "change(8, 3, 3, 1)", "change(8, 5, 0, 60000)");
        E.refused(-2, Scene.WORLD, "change(0, 0, 1, 0)", "change(9, 0, 0, 1)", "change(6, 0, 5, 60001)", "change(6, 0, 0, 1)",
                "change(9, 1, 0, 60000)", "change(7, 0, 1, 876)");
        E.refused(-3, Scene.WORLD, "change(8, 0, 0, 0)", "change(8, 1, 1, 60001)", "change(8, 1, 0, 60001)");
    }

    // ---- 5 lock

    private static void lockWho() {
        E.part("5: -1");
        E.refused(-1, Scene.TRIO, Scene.each("lock(#, 0, 1, 1, 0, 1)", Edges.noneOf(2)));
        E.refused(-1, Scene.TRIO, Scene.each("lock(1, #, 1, 1, 0, 1)", Edges.NO_PARTY));
        E.refused(-1, Scene.TRIO, Scene.each("lock(1, 1, #, 1, 0, 1)", Edges.NO_PARTY));
        E.refused(-1, Scene.TRIO, Scene.each("lock(1, 0, 1, 1, #, 1)", Edges.noneOf(1)));
        E.refused(-1, Scene.TRIO, "lock(1, 3, 1, 1, 0, 1)", "lock(1, 0, 5, 1, 0, 1)", "lock(1, 0, 1, 1, 16, 1)");
        E.run(Scene.TRIO.then("secret(5) = 1"), "lock(1, 0, 1, 1, 1, 1) = 0", "locked(1, 0, 3) = 1", "knows(1) = 32");
    }

    private static void lockAmount() {
        E.part("5: -3 v (1 to 60000)");
        E.run(Scene.TRIO, "lock(1, 0, 2, 1, 0, 9) = 0", "locked(1, 0, 2) = 1", "share(1, 0, 0) = 99", "share(1, 2, 0) = 100");
        E.run(RICH, "lock(1, 0, 1, 40000, 0, 9) = 0", "locked(1, 0, 2) = 40000", "share(1, 0, 0) = 0", "of(1, 5) = 40000");
        E.refused(-3, RICH, Scene.each("lock(1, 0, 1, #, 0, 9)", 0, -1, 60001, MIN, MAX));
        E.refused(-4, RICH, "lock(1, 0, 1, 60000, 0, 9)", "lock(1, 0, 1, 40001, 0, 9)");
    }

    private static void lockExpiry() {
        E.part("5: -3 expiry (1 to 1000000)");
        E.run(Scene.TRIO, "lock(1, 0, 1, 1, 0, 1) = 0", "locked(1, 0, 4) = 1", "lock(1, 0, 1, 1, 0, 1000000) = 1", "locked(1, 1, 4) = 1000000");
        E.run(Scene.TRIO, "height(100)", "lock(1, 0, 1, 1, 0, 1) = 0", "locked(1, 0, 4) = 1", "lock(1, 0, 1, 1, 0, 100) = 1");
        E.refused(-3, Scene.TRIO, Scene.each("lock(1, 0, 1, 1, 0, #)", 0, -1, 1000001, MIN, MAX));
    }

    private static void lockFree() {
        E.part("5: -4 the same one, FREE is less than v");
        E.refused(-4, Scene.TRIO, "lock(1, 1, 1, 1, 0, 1)", "lock(1, 0, 1, 101, 0, 1)");
        E.run(Scene.TRIO, "lock(1, 0, 1, 100, 0, 1) = 0", "lock(1, 0, 1, 1, 0, 1) = -4", "share(1, 0, 0) = 0");
        Scene out = Scene.TRIO.then("out(1, 0, 99) = 0");
        E.refused(-4, out, "lock(1, 0, 1, 2, 0, 1)");
        E.run(out, "lock(1, 0, 1, 1, 0, 1) = 0", "share(1, 0, 0) = 99", "share(1, 0, 1) = 99");
    }

    private static void lockPlace() {
        E.part("5: comes to the first empty place; -4 no place");
        Scene three = Scene.TRIO.then("lock(1, 0, 1, 1, 0, 1) = 0", "lock(1, 0, 1, 2, 0, 2) = 1", "lock(1, 0, 1, 3, 0, 3) = 2");
        E.refused(-4, three, "lock(1, 0, 1, 4, 0, 4)", "lock(1, 2, 1, 1, 0, 1)");
        E.run(three, "unlock(1, 2, true) = 3", "unlock(1, 0, true) = 1", "lock(1, 2, 1, 4, 0, 4) = 0", "lock(1, 2, 1, 5, 0, 5) = 2",
                "locked(1, 0, 4) = 4", "locked(1, 1, 4) = 2", "locked(1, 2, 4) = 5", "lock(1, 2, 1, 6, 0, 6) = -4");
        E.run(three, "unlock(1, 1, false) = 2", "lock(1, 2, 1, 6, 0, 6) = 1", "lock(1, 2, 1, 7, 0, 7) = -4");
    }

    private static void lockOrder() {
        E.part("5: the first of these that holds");
        E.refused(-1, Scene.WORLD, "lock(0, 0, 3, 1, 0, 1)", "lock(0, 0, 1, 1, 3, 1)", "lock(6, 0, 5, 0, -1, 0)", "lock(8, 0, 3, 0, 0, 1)",
                "lock(8, 0, 1, 1, 3, 0)", "lock(8, 3, 3, 1, 0, 1)", "lock(8, 0, 0, 1, 3, 1)", "lock(8, 0, 1, 60000, 3, 1)");
        E.refused(-2, Scene.WORLD, "lock(0, 0, 1, 0, 0, 1)", "lock(9, 0, 1, 1, 0, 0)", "lock(6, 0, 0, 1, 0, 1)", "lock(6, 0, 5, 1, 0, 1)",
                "lock(9, 0, 0, 60001, 0, 1000001)", "lock(7, 0, 1, 876, 0, 1)");
        E.refused(-3, Scene.WORLD, "lock(8, 0, 0, 0, 0, 1)", "lock(8, 0, 0, 1, 0, 0)", "lock(8, 0, 1, 60001, 0, 1)",
                "lock(8, 0, 1, 60000, 0, 1000001)");
        Scene three = Scene.TRIO.times(3, "lock(1, 0, 1, 1, 0, 1)");
        E.refused(-3, three, "lock(1, 0, 1, 0, 0, 1)", "lock(1, 0, 1, 1, 0, 0)");
        E.refused(-2, three.then("sign(1, 2) = 1"), "lock(1, 0, 1, 1, 0, 1)");
        E.refused(-1, three, "lock(1, 0, 1, 1, 1, 1)");
    }

    // ---- 6 unlock

    private static void unlockWhich() {
        E.part("6: -1 (also no LOCK there)");
        Scene two = Scene.TRIO.then("lock(1, 0, 2, 30, 0, 1) = 0", "lock(1, 0, 2, 30, 0, 1) = 1").then("unlock(1, 0, true) = 30");
        E.refused(-1, two, Scene.each("unlock(#, 1, true)", Edges.noneOf(2)));
        E.refused(-1, two, Scene.each("unlock(1, #, true)", Edges.NO_PLACE));
        E.refused(-1, two, Scene.each("unlock(1, #, false)", Edges.NO_PLACE));
        E.refused(-1, two, "unlock(1, 0, true)", "unlock(1, 0, false)", "unlock(1, 2, true)", "unlock(1, 2, false)", "unlock(0, 1, true)");
        E.refused(-1, two.then("unlock(1, 1, false) = 30"), "unlock(1, 1, true)", "unlock(1, 1, false)");
    }

    private static void unlockWhose() {
        E.part("6: part of the SHARE of the one to which it is (opened), or from which");
        for (int place = 0; place < 3; place++) {
            Scene three = Scene.TRIO.times(3, "lock(1, 0, 2, 30, 0, 1)");
            E.run(three, "unlock(1, " + place + ", true) = 30", "share(1, 2, 0) = 130", "share(1, 0, 0) = 10", "locked(1, " + place + ", 0) = -1");
            E.run(three, "unlock(1, " + place + ", false) = 30", "share(1, 2, 0) = 100", "share(1, 0, 0) = 40", "share(1, 1, 0) = 100");
        }
        E.run(RICH.then("lock(1, 0, 1, 40000, 0, 1) = 0"), "unlock(1, 0, true) = 40000", "share(1, 1, 0) = 40000", "knows(0) = 1");
    }

    private static void unlockOrder() {
        E.part("6: -1 comes before -2");
        E.refused(-1, Scene.WORLD, "unlock(0, 0, true)", "unlock(7, 1, true)", "unlock(5, 3, false)", "unlock(6, -1, true)", "unlock(2, 0, true)");
        E.refused(-2, Scene.WORLD, "unlock(7, 0, true)", "unlock(9, 0, false)", "unlock(5, 0, true)", "unlock(6, 2, true)", "unlock(6, 1, false)");
    }

    // ---- 7 game

    private static void gameWho() {
        E.part("7: -1");
        E.refused(-1, Scene.TRIO, Scene.each("game(#, 0, 1, 1, 1)", Edges.noneOf(2)));
        E.refused(-1, Scene.TRIO, Scene.each("game(1, #, 1, 1, 1)", Edges.NO_PARTY));
        E.refused(-1, Scene.TRIO, Scene.each("game(1, 1, #, 1, 1)", Edges.NO_PARTY));
        E.refused(-1, Scene.TRIO, "game(1, 3, 0, 1, 1)", "game(1, 0, 5, 1, 1)");
    }

    private static void gameAmount() {
        E.part("7: -3 v (1 to 10000)");
        E.run(Scene.TRIO, "game(1, 0, 2, 1, 5) = 2", "share(1, 0, 0) = 99", "share(1, 2, 0) = 99", "share(1, 1, 0) = 100");
        Scene half = RICH.then("change(1, 0, 1, 20000) = 20000");
        E.run(half, "game(1, 1, 0, 10000, 5) = 20000", "share(1, 0, 0) = 10000", "share(1, 1, 0) = 10000", "of(1, 5) = 40000");
        E.refused(-3, half, Scene.each("game(1, 0, 1, #, 5)", 0, -1, 10001, MIN, MAX));
    }

    private static void gameHeap() {
        E.part("7: -3 heap (1 to 20)");
        E.run(Scene.TRIO, "game(1, 0, 1, 5, 1) = 10", "of(1, 9) = 1", "move(1, 1) = 0");
        E.run(Scene.TRIO, "game(1, 0, 1, 5, 20) = 10", "of(1, 9) = 20", "move(1, 1) = 19");
        E.refused(-3, Scene.TRIO, Scene.each("game(1, 0, 1, 5, #)", 0, -1, 21, MIN, MAX));
    }

    private static void gameFree() {
        E.part("7: -4 the same one, FREE of one of them is less than v");
        E.refused(-4, Scene.TRIO, "game(1, 0, 0, 1, 1)", "game(1, 0, 1, 101, 1)", "game(1, 0, 1, 10000, 1)");
        Scene less = Scene.TRIO.then("change(1, 0, 2, 1) = 99");
        E.refused(-4, less, "game(1, 0, 1, 100, 1)", "game(1, 1, 0, 100, 1)");
        E.run(less, "game(1, 0, 1, 99, 1) = 198", "share(1, 0, 0) = 0", "share(1, 1, 0) = 1");
        E.run(less, "game(1, 2, 1, 100, 1) = 200", "share(1, 2, 0) = 1", "share(1, 1, 0) = 0");
        Scene out = Scene.TRIO.then("out(1, 1, 100) = 0");
        E.refused(-4, out, "game(1, 0, 1, 1, 1)", "game(1, 1, 0, 1, 1)");
        E.run(out, "game(1, 0, 2, 100, 1) = 200");
    }

    private static void gameOnlyOne() {
        E.part("7: -4 there is a GAME");
        Scene one = Scene.TRIO.then("game(1, 0, 1, 10, 2) = 20");
        E.refused(-4, one, "game(1, 0, 1, 10, 2)", "game(1, 1, 2, 1, 1)");
        E.run(one, "move(1, 1) = 1", "game(1, 2, 1, 1, 1) = -4", "move(1, 1) = 0", "game(1, 2, 1, 1, 1) = 2", "of(1, 6) = 2");
    }

    private static void gameOrder() {
        E.part("7: the first of these that holds");
        E.refused(-1, Scene.WORLD, "game(0, 0, 3, 1, 1)", "game(0, 3, 0, 0, 1)", "game(6, 0, 1, 1, 1)", "game(8, 0, 3, 0, 1)",
                "game(8, 3, 3, 1, 1)", "game(8, 3, 0, 1, 21)", "game(8, 0, 5, 1, 1)");
        E.refused(-2, Scene.WORLD, "game(0, 0, 1, 0, 1)", "game(0, 0, 1, 1, 0)", "game(6, 0, 0, 1, 1)", "game(9, 0, 1, 10001, 1)",
                "game(9, 0, 1, 1, 1)", "game(0, 0, 1, 1001, 1)");
        E.refused(-3, Scene.WORLD, "game(8, 0, 0, 0, 1)", "game(8, 0, 0, 1, 0)", "game(8, 0, 1, 10001, 1)", "game(8, 0, 1, 1, 21)");
    }

    // ---- 8 move

    private static void moveTake() {
        E.part("8: -3 take (1 to 3)");
        Scene game = Scene.TRIO.then("game(1, 0, 2, 10, 20) = 20");
        E.run(game, "move(1, 1) = 19", "move(1, 3) = 16", "move(1, 2) = 14", "of(1, 9) = 14", "of(1, 6) = 2", "of(1, 7) = 0");
        E.refused(-3, game, Scene.each("move(1, #)", 0, -1, 4, 20, MIN, MAX));
        E.refused(-1, game, Scene.each("move(#, 1)", Edges.noneOf(2)));
    }

    private static void moveLast() {
        E.part("8: -4 a HEAP of less; if none are left, that one gets the STAKE, and there is no GAME");
        for (int heap = 1; heap <= 3; heap++) {
            Scene game = Scene.TRIO.then("game(1, 0, 2, 10, " + heap + ") = 20");
            for (int take = heap + 1; take <= 3; take++) {
                E.refused(-4, game, "move(1, " + take + ")");
            }
            E.run(game, "move(1, " + heap + ") = 0", "share(1, 0, 0) = 110", "share(1, 2, 0) = 90", "of(1, 6) = -1", "of(1, 7) = -1",
                    "of(1, 8) = 0", "of(1, 9) = 0", "move(1, 1) = -4");
        }
        E.run(Scene.TRIO.then("game(1, 0, 2, 10, 4) = 20"), "move(1, 3) = 1", "of(1, 8) = 20", "move(1, 1) = 0", "share(1, 2, 0) = 110",
                "share(1, 0, 0) = 90");
    }

    private static void moveNone() {
        E.part("8: -4 no GAME");
        E.refused(-4, Scene.TRIO, Scene.upTo(1, 3, "move(1, #)"));
        E.refused(-4, Scene.TRIO.then("game(1, 0, 2, 10, 1) = 20", "move(1, 1) = 0"), Scene.upTo(1, 3, "move(1, #)"));
    }

    private static void moveOrder() {
        E.part("8: the first of these that holds");
        E.refused(-1, Scene.WORLD, "move(12, 0)", "move(-1, 4)");
        E.refused(-2, Scene.WORLD, "move(0, 0)", "move(0, 1)", "move(9, 4)", "move(6, 1)", "move(6, 0)", "move(5, 1)", "move(7, 1)");
        E.refused(-3, Scene.WORLD, "move(11, 0)", "move(11, 4)", "move(11, " + MIN + ")");
    }

    // ---- 9 out

    private static void outWho() {
        E.part("9: -1");
        E.refused(-1, Scene.TRIO, Scene.each("out(#, 0, 1)", Edges.noneOf(2)));
        E.refused(-1, Scene.TRIO, Scene.each("out(1, #, 1)", Edges.NO_PARTY));
        E.refused(-1, Scene.TRIO, "out(1, 3, 1)", "out(1, 5, 0)");
    }

    private static void outAmount() {
        E.part("9: -3 v (0 to 60000)");
        E.run(RICH, "out(1, 0, 0) = 0", "out(1, 0, 40000) = 0", "share(1, 0, 1) = 40000", "out(1, 0, 0) = 40000", "share(1, 0, 1) = 0");
        E.refused(-3, RICH, Scene.each("out(1, 0, #)", -1, 60001, MIN, MAX));
        E.refused(-4, RICH, "out(1, 0, 60000)", "out(1, 0, 40001)");
    }

    private static void outShare() {
        E.part("9: -4 its SHARE is less");
        Scene scene = Scene.TRIO.then("change(1, 0, 1, 1) = 99", "out(1, 0, 50) = 0");
        E.refused(-4, scene, "out(1, 0, 100)");
        E.run(scene, "out(1, 0, 99) = 50", "out(1, 0, 98) = 99", "out(1, 1, 101) = 0", "out(1, 2, 101) = -4");
        E.run(scene.then("change(1, 0, 1, 49) = 50"), "out(1, 0, 51) = -4", "out(1, 0, 50) = 50", "out(1, 0, 0) = 50");
        E.refused(-4, RICH, "out(1, 1, 1)");
    }

    private static void outOrder() {
        E.part("9: the first of these that holds");
        E.refused(-1, Scene.WORLD, "out(0, 3, 1)", "out(9, 5, -1)", "out(6, 1, 1)", "out(8, 3, 60001)", "out(8, 3, 60000)");
        E.refused(-2, Scene.WORLD, "out(0, 0, -1)", "out(9, 0, 60001)", "out(9, 0, 60000)", "out(6, 0, 0)", "out(5, 5, 10000)");
        E.refused(-3, Scene.WORLD, "out(8, 0, 60001)");
    }

    // ---- to change a state

    private static final String[] CHANGES = {"change(1, 0, 1, 1)", "lock(1, 0, 1, 1, 0, 5)", "unlock(1, 0, true)", "unlock(1, 0, false)",
        "move(1, 1)", "out(1, 0, 1)", "out(1, 0, 0)"};

    private static Scene changeable() {
        return Scene.TRIO.then("lock(1, 0, 1, 5, 0, 9) = 0", "game(1, 0, 1, 10, 5) = 20");
    }

    private static void changedWhenSigned() {
        E.part("TO CHANGE a STATE: -2 when somebody SIGNED it");
        for (String change : CHANGES) {
            E.run(changeable(), change);
        }
        E.run(Scene.TRIO, "game(1, 0, 1, 1, 1) = 2");
        for (int p = 0; p < 3; p++) {
            E.refused(-2, changeable().signed(1, p), CHANGES);
            E.refused(-2, Scene.TRIO.signed(1, p), "game(1, 0, 1, 1, 1)");
        }
        E.refused(-2, changeable().signed(1, 0, 1, 2), CHANGES);
        E.refused(-2, Scene.TRIO, "change(0, 0, 1, 1)", "lock(0, 0, 1, 1, 0, 5)", "game(0, 0, 1, 1, 1)", "move(0, 1)", "out(0, 0, 1)");
    }

    private static void changedWhenEnded() {
        E.part("TO CHANGE a STATE: -2 when its CHANNEL is ENDED");
        E.refused(-2, ENDED, CHANGES);
        E.refused(-2, Scene.TRIO.then("show(0, 0) = 3", "height(3) = 3"), "game(1, 0, 1, 1, 1)", "change(1, 0, 1, 1)", "out(1, 0, 1)");
        E.refused(-2, ENDED, "change(0, 0, 1, 1)", "lock(0, 0, 1, 1, 0, 5)", "game(0, 0, 1, 1, 1)", "move(0, 1)", "out(0, 0, 1)");
    }

    private static void changedWhenClosing() {
        E.part("TO CHANGE a STATE: not refused when its CHANNEL is CLOSING");
        Scene closing = changeable().then("show(0, 0) = 3", "height(2) = 2");
        for (String change : CHANGES) {
            E.run(closing, change);
        }
        E.run(Scene.TRIO.then("show(0, 0) = 3"), "game(1, 0, 1, 1, 1) = 2");
    }
}
