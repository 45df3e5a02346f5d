/** Promises 19 to 27 at the edges that the document names. */
public final class RouteEdgeTests {
    private static final Edges E = new Edges("RouteEdgeTests");
    private static final int MIN = Edges.MIN;
    private static final int MAX = Edges.MAX;

    /** Channels of 0 and 1, 1 and 2, 2 and 3, 3 and 4, 4 and 5, with 100 from each, delays 2, 3, 4, 5, 6. */
    private static final Scene CHAIN = Scene.NEW.then("channel(3, 100, 2) = 0", "channel(6, 100, 3) = 1", "channel(12, 100, 4) = 2",
            "channel(24, 100, 5) = 3", "channel(48, 100, 6) = 4");
    private static final Scene TWO_HOPS = hops(CHAIN, 2);
    private static final Scene FOUR_HOPS = hops(CHAIN, 4);

    public static void main(String[] args) {
        hopWho();
        hopNotOpen();
        hopFour();
        hopSameOne();
        hopInTheRoute();
        hopFromTheLast();
        hopOrder();
        payAmount();
        payExpiry();
        payNoHop();
        paySecrets();
        payStates();
        payNotOpen();
        payShare();
        payPlace();
        payOrder();
        payEmptiesTheRoute();
        payFourHops();
        paySigned();
        accountWho();
        toldWhat();
        toldOfEachPhase();
        ofWhat();
        shareWhat();
        lockedWhat();
        knowsWhat();
        countWhat();
        E.end();
    }

    private static Scene hops(Scene scene, int many) {
        Scene longer = scene;
        for (int i = 0; i < many; i++) {
            longer = longer.then("hop(" + i + ", " + i + ", " + (i + 1) + ") = " + (i + 1));
        }
        return longer;
    }

    /** A refused pay() leaves the scene as it was without its hops. */
    private static void payRefused(int want, Scene scene, int hops, String... calls) {
        E.refusedAs(want, hops(scene, hops), scene, calls);
    }

    // ---- 19 hop

    private static void hopWho() {
        E.part("19: -1");
        E.refused(-1, CHAIN, Scene.each("hop(#, 0, 1)", Edges.noneOf(5)));
        E.refused(-1, CHAIN, Scene.each("hop(0, #, 1)", Edges.NO_PARTY));
        E.refused(-1, CHAIN, Scene.each("hop(0, 1, #)", Edges.NO_PARTY));
        E.refused(-1, CHAIN, "hop(0, 0, 2)", "hop(0, 2, 1)", "hop(4, 4, 3)", "hop(4, 0, 5)");
    }

    private static void hopNotOpen() {
        E.part("19: -2 the CHANNEL is not OPEN");
        E.refused(-2, CHAIN.then("show(0, 0) = 2"), "hop(0, 0, 1)", "hop(0, 1, 0)");
        E.refused(-2, CHAIN.then("agree(0, 0)", "agree(0, 1)"), "hop(0, 0, 1)");
        E.run(CHAIN.then("show(0, 0) = 2", "height(2) = 2"), "hop(0, 0, 1) = -2", "hop(1, 1, 2) = 1");
    }

    private static void hopFour() {
        E.part("19: Answers how many; -4 4 HOPS");
        E.run(hops(CHAIN, 3), "hop(3, 3, 4) = 4", "count(4) = 4", "hop(4, 4, 5) = -4", "count(4) = 4");
        E.refused(-4, FOUR_HOPS, "hop(4, 4, 5)");
        E.run(FOUR_HOPS, "pay(1, 9) = 0", "hop(4, 4, 5) = 1");
    }

    private static void hopSameOne() {
        E.part("19: -4 the same one");
        E.refused(-4, CHAIN, "hop(0, 0, 0)", "hop(4, 5, 5)");
        E.refused(-4, TWO_HOPS, "hop(2, 2, 2)");
    }

    private static void hopInTheRoute() {
        E.part("19: -4 the CHANNEL is in THE ROUTE");
        Scene three = Scene.NEW.then("channel(7, 9, 2) = 0", "channel(7, 9, 2) = 1", "channel(7, 9, 2) = 2", "channel(7, 9, 2) = 3",
                "hop(0, 0, 1) = 1", "hop(1, 1, 2) = 2", "hop(2, 2, 0) = 3");
        E.refused(-4, three, "hop(0, 0, 1)", "hop(1, 0, 1)", "hop(2, 0, 1)", "hop(2, 0, 2)");
        E.run(three, "hop(3, 0, 1) = 4");
        E.run(three, "pay(1, 9) = 0", "hop(0, 0, 1) = 1", "hop(0, 1, 0) = -4", "hop(3, 1, 0) = 2");
    }

    private static void hopFromTheLast() {
        E.part("19: -4 the first one is not the second one of the HOP before");
        E.refused(-4, hops(CHAIN, 1), "hop(1, 2, 1)", "hop(2, 2, 3)", "hop(4, 5, 4)");
        E.refused(-4, TWO_HOPS, "hop(2, 3, 2)", "hop(3, 3, 4)");
        Scene wide = Scene.NEW.then("channel(7, 9, 2) = 0", "channel(7, 9, 2) = 1", "hop(0, 0, 1) = 1");
        E.refused(-4, wide, "hop(1, 0, 1)", "hop(1, 2, 0)", "hop(1, 0, 2)");
        E.run(wide, "hop(1, 1, 0) = 2");
        E.run(CHAIN, "hop(4, 5, 4) = 1");
    }

    private static void hopOrder() {
        E.part("19: the first of these that holds");
        Scene closing = FOUR_HOPS.then("show(4, 4) = 6", "show(0, 0) = 2");
        E.refused(-1, closing, "hop(4, 4, 3)", "hop(4, 6, 5)", "hop(0, 2, 2)", "hop(5, 4, 5)");
        E.refused(-2, closing, "hop(4, 4, 5)", "hop(4, 5, 5)", "hop(0, 0, 1)", "hop(0, 1, 1)", "hop(4, 5, 4)");
        E.refused(-1, FOUR_HOPS, "hop(4, 4, 0)", "hop(0, 0, 5)", "hop(0, 2, 2)");
    }

    // ---- 20 pay

    private static void payAmount() {
        E.part("20: -3 v (1 to 60000)");
        E.run(TWO_HOPS, "pay(1, 9) = 0", "locked(5, 0, 2) = 1", "share(5, 0, 0) = 99", "share(6, 1, 0) = 99", "share(6, 2, 0) = 100");
        payRefused(-3, CHAIN, 2, Scene.each("pay(#, 9)", 0, -1, 60001, MIN, MAX));
        payRefused(-4, CHAIN, 2, "pay(60000, 9)");
        Scene rich = Scene.NEW.then("channel(15, 10000, 2) = 0", "state(0) = 1", "change(1, 1, 0, 10000)", "change(1, 2, 0, 10000)",
                "change(1, 3, 0, 10000)").signed(1, 0, 1, 2, 3);
        E.run(hops(rich, 1), "pay(40000, 9) = 0", "locked(2, 0, 2) = 40000", "share(2, 0, 0) = 0", "of(2, 4) = 1");
        payRefused(-4, rich, 1, "pay(40001, 9)");
    }

    private static void payExpiry() {
        E.part("20: -3 expiry (1 to 1000000)");
        E.run(TWO_HOPS, "pay(1, 1) = 0", "locked(6, 0, 4) = 1", "locked(5, 0, 4) = 4");
        E.run(TWO_HOPS, "pay(1, 1000000) = 0", "locked(6, 0, 4) = 1000000", "locked(5, 0, 4) = 1000003");
        payRefused(-3, CHAIN, 2, Scene.each("pay(1, #)", 0, -1, 1000001, MIN, MAX));
        Scene slow = Scene.NEW.then("channel(3, 9, 20)", "channel(6, 9, 20)", "channel(12, 9, 20)", "channel(24, 9, 20)");
        E.run(hops(slow, 4), "pay(1, 1000000) = 0", "locked(7, 0, 4) = 1000000", "locked(6, 0, 4) = 1000021", "locked(5, 0, 4) = 1000042",
                "locked(4, 0, 4) = 1000063");
        E.run(hops(CHAIN.then("height(50)"), 1), "pay(1, 1) = 0", "locked(5, 0, 4) = 1");
    }

    private static void payNoHop() {
        E.part("20: -4 no HOP");
        E.refused(-4, CHAIN, "pay(1, 9)", "pay(60000, 1000000)");
        E.run(TWO_HOPS, "pay(1, 9) = 0", "pay(1, 9) = -4", "count(1) = 7", "count(2) = 1");
    }

    private static void paySecrets() {
        E.part("20: -4 16 SECRETS");
        Scene fifteen = CHAIN.times(15, "secret(0)");
        E.run(hops(fifteen, 2), "pay(1, 9) = 15", "knows(15) = 4", "locked(5, 0, 3) = 15", "count(2) = 16");
        payRefused(-4, fifteen.then("secret(0) = 15"), 2, "pay(1, 9)");
    }

    private static void payStates() {
        E.part("20: -4 more than 64 STATES");
        Scene sixty = CHAIN.times(55, "state(4)");
        E.run(hops(sixty, 4), "count(1) = 60", "pay(1, 9) = 0", "count(1) = 64", "of(63, 0) = 3", "of(63, 4) = 1");
        payRefused(-4, sixty.then("state(4) = 60"), 4, "pay(1, 9)");
        E.run(hops(sixty.then("state(4) = 60"), 3), "pay(1, 9) = 0", "count(1) = 64");
        payRefused(-4, sixty.times(4, "state(4)"), 1, "pay(1, 9)");
        E.run(hops(sixty.times(3, "state(4)"), 1), "pay(1, 9) = 0", "told(0, 4) = 63");
    }

    private static void payNotOpen() {
        E.part("20: -4 a CHANNEL that is not OPEN any more");
        for (int c = 0; c < 4; c++) {
            String show = "show(" + c + ", " + c + ") = " + (2 + c);
            E.refusedAs(-4, FOUR_HOPS.then(show), CHAIN.then(show), "pay(1, 9)");
            String[] agree = {"agree(" + c + ", " + c + ") = 1", "agree(" + c + ", " + (c + 1) + ") = 2"};
            E.refusedAs(-4, FOUR_HOPS.then(agree), CHAIN.then(agree), "pay(1, 9)");
            E.refusedAs(-4, FOUR_HOPS.then(show, "height(10)"), CHAIN.then(show, "height(10)"), "pay(1, 9)");
        }
        E.run(FOUR_HOPS.then("show(4, 4) = 6"), "pay(1, 9) = 0");
    }

    private static void payShare() {
        E.part("20: -4 in some NEWEST the SHARE of the first one is less than v");
        E.run(FOUR_HOPS, "pay(100, 9) = 0", "share(5, 0, 0) = 0", "share(8, 3, 0) = 0", "share(8, 4, 0) = 100", "told(3, 1) = 200");
        payRefused(-4, CHAIN, 4, "pay(101, 9)");
        for (int c = 0; c < 4; c++) {
            Scene less = CHAIN.then("state(" + c + ") = 5", "change(5, " + c + ", " + (c + 1) + ", 1) = 99").signed(5, c, c + 1);
            payRefused(-4, less, 4, "pay(100, 9)");
            E.run(hops(less, 4), "pay(99, 9) = 0", "share(" + (6 + c) + ", " + c + ", 0) = 0");
        }
        E.part("20: the SHARE, whatever its OUT; in THE NEWEST");
        Scene out = CHAIN.then("state(0) = 5", "out(5, 0, 100) = 0").signed(5, 0, 1);
        E.run(hops(out, 1), "pay(100, 9) = 0", "share(6, 0, 0) = 0", "share(6, 0, 1) = 0", "share(5, 0, 1) = 100");
        E.run(hops(CHAIN.then("state(0) = 5", "change(5, 0, 1, 100) = 0"), 1), "pay(100, 9) = 0", "share(6, 1, 0) = 100");
    }

    private static void payPlace() {
        E.part("20: -4 in some NEWEST no place");
        for (int c = 0; c < 2; c++) {
            String lock = "lock(5, " + (c + 1) + ", " + c + ", 1, 0, 9)";
            Scene two = CHAIN.then("secret(0) = 0", "state(" + c + ") = 5", lock, lock);
            E.run(hops(two.signed(5, c, c + 1), 2), "pay(1, 9) = 1", "locked(" + (6 + c) + ", 2, 2) = 1", "locked(" + (7 - c) + ", 0, 2) = 1");
            payRefused(-4, two.then(lock).signed(5, c, c + 1), 2, "pay(1, 9)");
            E.run(hops(two.then(lock), 2), "pay(1, 9) = 1");
        }
    }

    private static void payOrder() {
        E.part("20: -3 comes before -4");
        E.refused(-3, CHAIN, "pay(0, 9)", "pay(1, 0)", "pay(60001, 9)", "pay(1, 1000001)");
        payRefused(-3, CHAIN.times(16, "secret(0)"), 1, "pay(0, 9)", "pay(101, 0)");
        payRefused(-3, CHAIN.times(59, "state(4)"), 1, "pay(0, 9)", "pay(1, 1000001)");
        E.refusedAs(-3, TWO_HOPS.then("show(1, 1) = 3"), CHAIN.then("show(1, 1) = 3"), "pay(1, 0)", "pay(60001, 9)");
    }

    private static void payEmptiesTheRoute() {
        E.part("20: THE ROUTE (empty then, in any case)");
        E.run(TWO_HOPS, "pay(1, 9) = 0", "count(4) = 0", "hop(4, 5, 4) = 1");
        for (String refused : new String[] {"pay(0, 9) = -3", "pay(1, 0) = -3", "pay(101, 9) = -4"}) {
            E.run(TWO_HOPS, refused, "count(4) = 0", "pay(1, 9) = -4", "hop(1, 2, 1) = 1", "count(4) = 1", "pay(1, 9) = 0", "knows(0) = 2",
                    "count(1) = 6");
        }
        E.refusedAs(-4, Scene.WORLD.then("show(4, 4) = 10"), Scene.WORLD.then("pay(1, 0) = -3", "show(4, 4) = 10"), "pay(1, 9)");
    }

    private static void payFourHops() {
        E.part("20: the EXPIRY of the last HOP's is told, each other one's is that of the next HOP, and the DELAY of its own CHANNEL, and 1");
        E.run(FOUR_HOPS, "pay(7, 30) = 0", "locked(8, 0, 4) = 30", "locked(7, 0, 4) = 35", "locked(6, 0, 4) = 39", "locked(5, 0, 4) = 42",
                "knows(0) = 16", "count(2) = 1");
        E.run(CHAIN, "hop(4, 5, 4) = 1", "pay(7, 30) = 0", "locked(5, 0, 4) = 30", "locked(5, 0, 0) = 5", "locked(5, 0, 1) = 4", "knows(0) = 16");
        E.run(CHAIN, "hop(4, 5, 4) = 1", "hop(3, 4, 3) = 2", "pay(7, 30) = 0", "of(5, 0) = 4", "locked(5, 0, 4) = 37", "of(6, 0) = 3",
                "locked(6, 0, 4) = 30", "knows(0) = 8");
    }

    private static void paySigned() {
        E.part("20: a new STATE .. that all MEMBERS SIGN (from the first HOP on)");
        Scene wide = Scene.NEW.then("channel(15, 9, 2) = 0", "channel(14, 9, 2) = 1", "hop(0, 0, 3) = 1", "hop(1, 3, 1) = 2", "pay(4, 9) = 0");
        E.run(wide, "of(2, 0) = 0", "of(2, 2) = 15", "of(2, 4) = 1", "told(0, 4) = 2", "of(3, 0) = 1", "of(3, 2) = 14", "told(1, 4) = 3",
                "of(2, 5) = 36", "of(3, 5) = 27", "of(2, 3) = 0", "knows(0) = 2");
        E.refused(-4, wide, "sign(2, 0)", "sign(3, 3)");
        E.refused(-2, wide, "change(2, 0, 1, 1)", "unlock(3, 0, true)");
    }

    // ---- 21 to 27

    private static void accountWho() {
        E.part("21: -1");
        E.run(CHAIN, "account(0) = 9900", "account(4) = 9800", "account(5) = 9900");
        E.refused(-1, CHAIN, Scene.each("account(#)", Edges.NO_PARTY));
    }

    private static void toldWhat() {
        E.part("22: -1");
        E.run(Scene.WORLD, "told(0, 0) = 1", "told(2, 11) = 80", "told(4, 11) = 0");
        E.refused(-1, Scene.WORLD, Scene.each("told(2, #)", Edges.noneOf(12)));
        E.refused(-1, Scene.WORLD, Scene.each("told(#, 0)", Edges.noneOf(5)));
    }

    private static void toldOfEachPhase() {
        E.part("22: NONE when it is ENDED, NONE, 0 when it is not CLOSING, NONE and 0 without a HELD GAME");
        int[][] due = {
            {1, 3000, 3, 7, 7, -1, 0, 0, -1, 0, 0, 0},
            {2, 2000, 2, 30, 10, 1, 6, 0, -1, 0, 0, 0},
            {3, 120, 4, 33, -1, 5, 0, 5, 5, 7, 8, 80},
            {1, 400, 5, 24, 3, -1, 0, 0, -1, 0, 0, 0},
        };
        for (int c = 0; c < due.length; c++) {
            for (int what = 0; what < due[c].length; what++) {
                E.run(Scene.WORLD, "told(" + c + ", " + what + ") = " + due[c][what]);
            }
        }
        E.run(Scene.WORLD.then("claim(2, 0, 5) = 10", "height(100)"), "told(2, 1) = 0", "told(2, 5) = 5", "told(2, 7) = 0", "told(2, 8) = -1",
                "told(2, 9) = 0", "told(2, 10) = 0", "told(2, 11) = 0", "told(1, 6) = 0", "told(1, 4) = -1");
    }

    private static void ofWhat() {
        E.part("23: -1; NONE without a GAME, each 0");
        int[][] due = {{0, 0, 7, 0, 1, 3000, -1, -1, 0, 0}, {0, 1, 7, 2, 1, 3000, 2, 0, 50, 7}, {0, 3, 4, 0, 0, 3000, 2, 0, 50, 7}};
        int[] states = {0, 7, 9};
        for (int i = 0; i < states.length; i++) {
            for (int what = 0; what < due[i].length; what++) {
                E.run(Scene.WORLD, "of(" + states[i] + ", " + what + ") = " + due[i][what]);
            }
        }
        E.refused(-1, Scene.WORLD, Scene.each("of(7, #)", Edges.noneOf(10)));
        E.refused(-1, Scene.WORLD, Scene.each("of(#, 0)", Edges.noneOf(12)));
    }

    private static void shareWhat() {
        E.part("24: -1");
        E.run(Scene.WORLD, "share(7, 0, 0) = 975", "share(7, 0, 1) = 100", "share(10, 4, 0) = 533", "share(5, 5, 0) = 230");
        E.refused(-1, Scene.WORLD, Scene.each("share(7, 0, #)", Edges.noneOf(2)));
        E.refused(-1, Scene.WORLD, Scene.each("share(7, #, 0)", Edges.NO_PARTY));
        E.refused(-1, Scene.WORLD, Scene.each("share(#, 0, 0)", Edges.noneOf(12)));
        E.refused(-1, Scene.WORLD, "share(7, 3, 0)", "share(7, 5, 1)", "share(10, 0, 0)");
    }

    private static void lockedWhat() {
        E.part("25: -1: also none there");
        int[] due = {1, 2, 15, 0, 70};
        for (int what = 0; what < due.length; what++) {
            E.run(Scene.WORLD, "locked(7, 0, " + what + ") = " + due[what]);
        }
        E.refused(-1, Scene.WORLD, Scene.each("locked(7, 0, #)", Edges.noneOf(5)));
        E.refused(-1, Scene.WORLD, Scene.each("locked(7, #, 0)", Edges.NO_PLACE));
        E.refused(-1, Scene.WORLD, Scene.each("locked(#, 0, 0)", Edges.noneOf(12)));
        E.refused(-1, Scene.WORLD, "locked(7, 1, 0)", "locked(7, 2, 4)", "locked(8, 0, 2)", "locked(0, 0, 0)");
    }

    private static void knowsWhat() {
        E.part("26: -1");
        E.run(Scene.WORLD, "knows(0) = 1", "knows(1) = 2", "knows(2) = 32");
        E.refused(-1, Scene.WORLD, Scene.each("knows(#)", Edges.noneOf(3)));
        E.refused(-1, Scene.WORLD, "knows(15)", "knows(16)");
    }

    private static void countWhat() {
        E.part("27: -1");
        int[] due = {5, 12, 3, 4, 2, 36, 60000};
        for (int what = 0; what < due.length; what++) {
            E.run(Scene.WORLD, "count(" + what + ") = " + due[what]);
        }
        E.refused(-1, Scene.WORLD, Scene.each("count(#)", Edges.noneOf(7)));
        E.refused(-1, Scene.NEW, Scene.each("count(#)", Edges.noneOf(7)));
    }
}
