/** Terms 2 and promises 10 to 17 at the edges that the document names. */
public final class LedgerEdgeTests {
    private static final Edges E = new Edges("LedgerEdgeTests");

    /** State 1 of three members counts; 2 is newer and counts, too; 3 is unsigned. */
    private static final Scene THREE_STATES = Scene.TRIO.then("change(1, 0, 1, 10) = 90").signed(1, 0, 1, 2)
            .then("state(0) = 2", "change(2, 0, 1, 10) = 80").signed(2, 0, 1, 2).then("state(0) = 3");
    private static final Scene SIXTEEN_SECRETS = Scene.NEW.times(16, "secret(1)");

    public static void main(String[] args) {
        signWho();
        signEnded();
        signAgain();
        signMany();
        showWho();
        showUntil();
        showWhenClosing();
        showEnded();
        showDoesNotCount();
        showOrder();
        agreeWho();
        agreeNotOpen();
        agreeNotNewest();
        agreeAgain();
        agreeMany();
        agreeEnds();
        agreePaysOuts();
        agreePaysAll();
        endShares();
        endLocks();
        endGame();
        endSum();
        endKeepsWhatIsTold();
        secretWho();
        secretRoom();
        tellWho();
        tellKnown();
        claimWho();
        claimNotEnded();
        claimNone();
        claimWhen();
        claimOrder();
        stepWho();
        stepNone();
        stepTake();
        stepTurn();
        stepLast();
        stepDeadline();
        stepOrder();
        watchWho();
        watchWas();
        E.end();
    }

    private static Scene ended(Scene scene) {
        return scene.signed(1, 0, 1, 2).then("agree(1, 0) = 1", "agree(1, 1) = 2", "agree(1, 2) = 3");
    }

    // ---- 10 sign

    private static void signWho() {
        E.part("10: -1");
        E.refused(-1, Scene.TRIO, Scene.each("sign(#, 0)", Edges.noneOf(2)));
        E.refused(-1, Scene.TRIO, Scene.each("sign(1, #)", Edges.NO_PARTY));
        E.refused(-1, Scene.TRIO, "sign(1, 3)", "sign(1, 4)", "sign(1, 5)");
    }

    private static void signEnded() {
        E.part("10: -2 ENDED, before -4 and behind -1");
        E.refused(-2, Scene.WORLD, "sign(6, 0)", "sign(6, 5)", "sign(5, 0)", "sign(2, 5)");
        E.refused(-1, Scene.WORLD, "sign(6, 1)", "sign(5, 6)");
        E.run(Scene.WORLD, "sign(11, 1) = 1", "sign(8, 0) = 1");
    }

    private static void signAgain() {
        E.part("10: -4 it SIGNED it already");
        E.refused(-4, Scene.WORLD, "sign(9, 2)", "sign(0, 0)", "sign(0, 1)", "sign(0, 2)", "sign(7, 1)", "sign(10, 4)");
        E.run(Scene.WORLD, "sign(9, 1) = 2", "sign(9, 1) = -4", "sign(9, 2) = -4", "sign(9, 0) = 3", "told(0, 4) = 9");
    }

    private static void signMany() {
        E.part("10: Answers how many SIGNED it");
        E.run(Scene.NEW.then("channel(53, 1, 2) = 0", "state(0) = 1"), "sign(1, 5) = 1", "of(1, 2) = 32", "sign(1, 0) = 2", "of(1, 2) = 33",
                "sign(1, 4) = 3", "of(1, 2) = 49", "of(1, 4) = 0", "sign(1, 2) = 4", "of(1, 2) = 53", "of(1, 4) = 1");
    }

    // ---- 11 show

    private static void showWho() {
        E.part("11: -1");
        E.refused(-1, Scene.TRIO, Scene.each("show(#, 0)", Edges.noneOf(2)));
        E.refused(-1, Scene.TRIO, Scene.each("show(0, #)", Edges.NO_PARTY));
        E.refused(-1, Scene.TRIO, "show(0, 3)", "show(0, 4)", "show(0, 5)");
    }

    private static void showUntil() {
        E.part("TO SHOW: if it is OPEN, is CLOSING by it, UNTIL HEIGHT + DELAY");
        for (int delay = 2; delay <= 20; delay += 18) {
            Scene scene = Scene.NEW.then("channel(3, 1, " + delay + ") = 0");
            E.run(scene, "told(0, 5) = -1", "told(0, 6) = 0", "show(0, 1) = " + delay, "told(0, 0) = 2", "told(0, 5) = 0",
                    "told(0, 6) = " + delay);
            E.run(scene, "height(100)", "height(7)", "show(0, 0) = " + (107 + delay), "told(0, 6) = " + (107 + delay),
                    "height(" + (delay - 1) + ")", "told(0, 0) = 2", "height(1)", "told(0, 0) = 3", "told(0, 6) = 0", "told(0, 5) = 0");
        }
    }

    private static void showWhenClosing() {
        E.part("TO SHOW: if it is CLOSING by one of a lesser RANK, it is CLOSING by this one (UNTIL stays)");
        Scene closing = THREE_STATES.then("height(5)", "show(1, 0) = 8", "height(2) = 7");
        E.refused(-4, closing, "show(0, 0)", "show(0, 2)", "show(1, 0)", "show(1, 1)", "show(1, 2)");
        E.run(closing, "show(2, 2) = 8", "told(0, 5) = 2", "told(0, 6) = 8", "show(1, 1) = -4", "show(2, 1) = -4", "height(1)",
                "told(0, 0) = 3", "account(0) = 9980");
        E.run(closing.signed(3, 0, 1, 2), "show(3, 1) = 8", "show(2, 1) = -4", "told(0, 5) = 3");
        E.run(THREE_STATES.then("show(0, 2) = 3"), "height(1)", "show(1, 0) = 3", "told(0, 5) = 1", "height(1)", "show(2, 0) = 3",
                "told(0, 5) = 2");
    }

    private static void showEnded() {
        E.part("11: -2 ENDED");
        E.refused(-2, Scene.WORLD, "show(2, 0)", "show(5, 0)", "show(5, 5)", "show(6, 0)");
        E.refused(-2, THREE_STATES.then("show(1, 0) = 3", "height(3) = 3"), "show(0, 0)", "show(1, 0)", "show(2, 0)", "show(3, 0)");
    }

    private static void showDoesNotCount() {
        E.part("11: -4 it does not COUNT");
        E.refused(-4, Scene.TRIO, "show(1, 0)");
        E.refused(-4, Scene.TRIO.signed(1, 0, 1), "show(1, 0)", "show(1, 2)");
        E.refused(-4, Scene.TRIO.signed(1, 1, 2), "show(1, 1)");
        E.refused(-4, Scene.WORLD, "show(8, 0)", "show(9, 2)", "show(11, 1)");
        E.run(Scene.TRIO.signed(1, 0, 1), "sign(1, 2) = 3", "show(1, 2) = 3");
    }

    private static void showOrder() {
        E.part("11: the first of these that holds");
        E.refused(-1, Scene.WORLD, "show(5, 1)", "show(6, 6)", "show(8, 3)", "show(1, 0)", "show(12, 0)");
        E.refused(-2, Scene.WORLD, "show(6, 5)", "show(2, 5)");
    }

    // ---- 12 agree

    private static void agreeWho() {
        E.part("12: -1");
        E.refused(-1, Scene.TRIO, Scene.each("agree(#, 0)", Edges.noneOf(2)));
        E.refused(-1, Scene.TRIO, Scene.each("agree(0, #)", Edges.NO_PARTY));
        E.refused(-1, Scene.TRIO, "agree(0, 3)", "agree(0, 4)", "agree(0, 5)");
    }

    private static void agreeNotOpen() {
        E.part("12: -2 not OPEN, before -4 and behind -1");
        E.refused(-2, Scene.WORLD, "agree(10, 1)", "agree(1, 1)", "agree(11, 2)", "agree(5, 0)", "agree(6, 0)", "agree(2, 5)");
        E.refused(-1, Scene.WORLD, "agree(10, 0)", "agree(5, 1)", "agree(2, -1)");
        Scene agreed = Scene.PAIR.then("agree(0, 0) = 1", "show(0, 1) = 3");
        E.refused(-2, agreed, "agree(0, 0)", "agree(0, 1)", "agree(1, 0)");
        E.refused(-2, agreed.then("height(3) = 3"), "agree(0, 0)", "agree(0, 1)", "agree(1, 0)");
    }

    private static void agreeNotNewest() {
        E.part("12: -4 it is not THE NEWEST");
        E.refused(-4, THREE_STATES, "agree(0, 0)", "agree(1, 0)", "agree(3, 0)");
        E.run(THREE_STATES, "agree(2, 0) = 1", "of(2, 3) = 1");
        E.refused(-4, THREE_STATES.then("agree(2, 0) = 1", "agree(2, 1) = 2").signed(3, 0, 1, 2), "agree(2, 2)", "agree(2, 0)");
        E.run(Scene.PAIR.then("agree(0, 0) = 1").signed(1, 0, 1), "of(0, 3) = 1", "agree(1, 1) = 1", "of(1, 3) = 2");
    }

    private static void agreeAgain() {
        E.part("12: -4 it AGREED on it already");
        E.refused(-4, Scene.WORLD, "agree(7, 1)");
        E.run(Scene.WORLD, "agree(7, 2) = 2", "agree(7, 2) = -4", "agree(7, 1) = -4", "of(7, 3) = 6", "told(0, 0) = 1");
    }

    private static void agreeMany() {
        E.part("12: Answers how many AGREED (with this one)");
        E.run(Scene.PAIR, "agree(0, 1) = 1", "of(0, 3) = 2", "agree(0, 0) = 2", "told(0, 0) = 3");
        E.run(Scene.NEW.then("channel(58, 1, 2) = 0"), "agree(0, 5) = 1", "agree(0, 1) = 2", "agree(0, 3) = 3", "of(0, 3) = 42",
                "told(0, 0) = 1", "agree(0, 4) = 4", "told(0, 0) = 3", "account(4) = 10000");
    }

    private static void agreeEnds() {
        E.part("12: if it has no OUT above 0, the CHANNEL ENDS by it");
        E.run(Scene.TRIO.then("out(1, 0, 5) = 0", "out(1, 0, 0) = 5").signed(1, 0, 1, 2).then("agree(1, 0) = 1", "agree(1, 1) = 2"),
                "agree(1, 2) = 3", "told(0, 0) = 3", "told(0, 5) = 1", "told(0, 1) = 0", "of(1, 3) = 7");
        E.run(Scene.TRIO.then("out(1, 0, 5) = 0"), "agree(0, 0) = 1", "agree(0, 1) = 2", "agree(0, 2) = 3", "told(0, 0) = 3", "told(0, 5) = 0");
    }

    private static void agreePaysOuts() {
        E.part("12: else each ACCOUNT gets its OUT, .. OUTS are 0, nobody AGREED on it, and it stays OPEN");
        for (int p = 0; p < 3; p++) {
            Scene scene = Scene.TRIO.then("out(1, " + p + ", 1) = 0").signed(1, 0, 1, 2).then("agree(1, 2) = 1", "agree(1, 0) = 2");
            E.run(scene, "agree(1, 1) = 3", "told(0, 0) = 1", "told(0, 1) = 299", "account(" + p + ") = 9901", "share(1, " + p + ", 0) = 99",
                    "share(1, " + p + ", 1) = 0", "of(1, 3) = 0", "of(1, 2) = 7", "of(1, 4) = 1", "told(0, 5) = -1", "count(6) = 60000");
            E.run(scene, "account(" + p + ") = 9900", "told(0, 1) = 300", "share(1, " + p + ", 1) = 1", "of(1, 3) = 5");
        }
        Scene paid = Scene.TRIO.then("out(1, 0, 100) = 0", "out(1, 2, 7) = 0").signed(1, 0, 1, 2).then("agree(1, 2) = 1", "agree(1, 0) = 2",
                "agree(1, 1) = 3");
        E.run(paid, "account(0) = 10000", "account(1) = 9900", "account(2) = 9907", "told(0, 1) = 193", "share(1, 0, 0) = 0",
                "share(1, 1, 0) = 100", "share(1, 2, 0) = 93");
        E.run(paid, "agree(1, 2) = 1", "agree(1, 0) = 2", "agree(1, 1) = 3", "told(0, 0) = 3", "account(0) = 10000", "account(2) = 10000");
        E.refused(-2, paid, "out(1, 0, 0)", "change(1, 1, 0, 1)");
    }

    private static void agreePaysAll() {
        E.part("12: an OUT of the whole SHARE of each");
        Scene paid = Scene.PAIR.then("out(1, 0, 100) = 0", "out(1, 1, 100) = 0").signed(1, 0, 1).then("agree(1, 0) = 1", "agree(1, 1) = 2");
        E.run(paid, "told(0, 1) = 0", "told(0, 0) = 1", "of(1, 5) = 0", "of(1, 4) = 1", "account(0) = 10000", "account(1) = 10000",
                "state(0) = 2", "of(2, 5) = 0", "change(2, 0, 1, 1) = -4", "agree(1, 0) = 1", "agree(1, 1) = 2", "told(0, 0) = 3",
                "count(6) = 60000");
        Scene withLock = Scene.PAIR.then("lock(1, 0, 1, 30, 0, 9) = 0", "out(1, 0, 70) = 0").signed(1, 0, 1)
                .then("agree(1, 0) = 1", "agree(1, 1) = 2");
        E.run(withLock, "told(0, 1) = 130", "of(1, 5) = 130", "of(1, 4) = 1", "locked(1, 0, 2) = 30", "show(1, 0) = 3", "height(3)",
                "told(0, 1) = 30", "claim(0, 0, 1) = -4", "account(0) = 9970", "account(1) = 10000");
    }

    // ---- to end

    private static void endShares() {
        E.part("TO END: each MEMBER's ACCOUNT gets its SHARE");
        Scene scene = Scene.TRIO.then("change(1, 0, 1, 100) = 0", "change(1, 2, 1, 99) = 1", "out(1, 1, 50) = 0").signed(1, 0, 1, 2);
        E.run(scene.then("show(1, 0) = 3", "height(3)"), "account(0) = 9900", "account(1) = 10199", "account(2) = 9901", "account(3) = 10000",
                "told(0, 1) = 0", "told(0, 5) = 1", "count(6) = 60000");
    }

    private static void endLocks() {
        E.part("TO END: LOCKS with an EXPIRY above HEIGHT are HELD, others go back");
        for (int place = 0; place < 3; place++) {
            Scene locks = Scene.TRIO;
            for (int i = 0; i < 3; i++) {
                locks = locks.then("lock(1, " + i + ", " + (i + 1) % 3 + ", 10, 0, " + (i == place ? 8 : 7) + ") = " + i);
            }
            locks = locks.signed(1, 0, 1, 2).then("height(4)");
            String[] due = {"told(0, 7) = " + (1 << place), "told(0, 1) = 10", "account(" + place + ") = 9990",
                "account(" + (place + 1) % 3 + ") = 10000", "account(" + (place + 2) % 3 + ") = 10000"};
            E.run(locks.then("show(1, 1) = 7", "height(2)", "told(0, 7) = 0", "height(1)"), due);
            E.run(locks.then("height(3)", "agree(1, 0)", "agree(1, 1)", "agree(1, 2)"), due);
        }
        Scene greatest = Scene.TRIO.then("lock(1, 0, 1, 10, 0, 1000000) = 0", "lock(1, 0, 1, 20, 0, 1) = 1");
        E.run(ended(greatest), "told(0, 7) = 3", "height(1)", "told(0, 7) = 1", "height(100)", "told(0, 7) = 1");
    }

    private static void endGame() {
        E.part("TO END: its GAME is HELD, with a DEADLINE, HEIGHT + DELAY");
        for (int delay = 2; delay <= 20; delay += 18) {
            Scene scene = Scene.NEW.then("channel(3, 50, " + delay + ") = 0", "state(0) = 1", "game(1, 1, 0, 50, 20) = 100").signed(1, 0, 1)
                    .then("height(9)", "agree(1, 0)");
            E.run(scene, "told(0, 8) = -1", "told(0, 10) = 0", "told(0, 11) = 0", "agree(1, 1) = 2", "told(0, 8) = 1", "told(0, 9) = 20",
                    "told(0, 10) = " + (9 + delay), "told(0, 11) = 100", "told(0, 1) = 100", "account(0) = 9950");
            E.run(scene.then("show(1, 0)", "height(" + delay + ")"), "told(0, 8) = 1", "told(0, 10) = " + (9 + 2 * delay));
        }
        E.run(ended(Scene.TRIO), "told(0, 8) = -1", "told(0, 9) = 0", "told(0, 10) = 0", "told(0, 11) = 0");
    }

    private static void endSum() {
        E.part("TO END: its SUM is what is HELD");
        E.run(ended(Scene.TRIO), "told(0, 1) = 0", "told(0, 7) = 0");
        E.run(ended(Scene.TRIO.then("lock(1, 0, 1, 1, 0, 5) = 0", "lock(1, 0, 1, 2, 0, 5) = 1", "lock(1, 0, 1, 4, 0, 5) = 2",
                "game(1, 0, 1, 8, 9) = 16")), "told(0, 1) = 23", "told(0, 7) = 7", "told(0, 11) = 16", "count(6) = 60000");
    }

    private static void endKeepsWhatIsTold() {
        E.part("What a STATE tells stays as it is");
        Scene scene = Scene.TRIO.then("lock(1, 0, 1, 1, 0, 5) = 0", "lock(1, 0, 1, 2, 0, 1) = 1", "game(1, 0, 1, 8, 9) = 16", "out(1, 2, 30) = 0")
                .signed(1, 0, 1, 2).then("show(1, 0) = 3", "height(3) = 3", "step(0, 0, 3) = 6", "tell(0, 0, 1) = 1", "claim(0, 0, 1) = 1",
                "height(50)");
        E.run(scene, "of(1, 1) = 1", "of(1, 2) = 7", "of(1, 3) = 0", "of(1, 4) = 0", "of(1, 5) = 300", "of(1, 6) = 0", "of(1, 7) = 1",
                "of(1, 8) = 16", "of(1, 9) = 9", "share(1, 0, 0) = 89", "share(1, 2, 0) = 100", "share(1, 2, 1) = 30",
                "locked(1, 0, 2) = 1", "locked(1, 1, 4) = 1", "told(0, 1) = 0", "told(0, 7) = 0", "told(0, 5) = 1");
    }

    // ---- 13 secret, 14 tell

    private static void secretWho() {
        E.part("13: -1, before -4");
        E.refused(-1, Scene.NEW, Scene.each("secret(#)", Edges.NO_PARTY));
        E.refused(-1, SIXTEEN_SECRETS, Scene.each("secret(#)", Edges.NO_PARTY));
        E.run(Scene.NEW, "secret(0) = 0", "knows(0) = 1", "secret(5) = 1", "knows(1) = 32");
    }

    private static void secretRoom() {
        E.part("13: -4 16 SECRETS");
        E.run(Scene.NEW.times(15, "secret(1)"), "secret(4) = 15", "knows(15) = 16", "secret(4) = -4", "count(2) = 16");
        E.refused(-4, SIXTEEN_SECRETS, Scene.upTo(0, 5, "secret(#)"));
    }

    private static void tellWho() {
        E.part("14: -1, before -4");
        E.refused(-1, Scene.PAIR, Scene.each("tell(#, 0, 1)", Edges.noneOf(1)));
        E.refused(-1, Scene.PAIR, Scene.each("tell(0, #, 1)", Edges.NO_PARTY));
        E.refused(-1, Scene.PAIR, Scene.each("tell(0, 0, #)", Edges.NO_PARTY));
        E.refused(-1, Scene.PAIR, "tell(0, 3, 6)", "tell(0, 1, -1)", "tell(1, 3, 3)", "tell(16, 0, 1)");
        E.run(SIXTEEN_SECRETS, "tell(15, 1, 5) = 1", "knows(15) = 34", "tell(16, 1, 5) = -1");
    }

    private static void tellKnown() {
        E.part("14: Answers 1, 0 when it did already; -4 the first one does not KNOW it");
        E.run(Scene.PAIR, "tell(0, 0, 0) = 0", "tell(0, 0, 5) = 1", "tell(0, 0, 5) = 0", "tell(0, 5, 0) = 0", "tell(0, 5, 5) = 0", "knows(0) = 33");
        E.refused(-4, Scene.PAIR, "tell(0, 1, 0)", "tell(0, 5, 1)", "tell(0, 3, 3)");
        E.run(Scene.PAIR, "tell(0, 0, 1) = 1", "tell(0, 0, 2) = 1", "tell(0, 0, 3) = 1", "tell(0, 0, 4) = 1", "tell(0, 0, 5) = 1", "knows(0) = 63",
                "tell(0, 3, 4) = 0");
        E.run(Scene.PAIR.then("secret(1) = 1"), "tell(1, 1, 4) = 1", "knows(0) = 1", "knows(1) = 18");
    }

    // ---- 15 claim

    private static void claimWho() {
        E.part("15: -1 (p: any PARTY)");
        E.refused(-1, Scene.WORLD, Scene.each("claim(#, 0, 5)", Edges.noneOf(5)));
        E.refused(-1, Scene.WORLD, Scene.each("claim(2, #, 5)", Edges.NO_PLACE));
        E.refused(-1, Scene.WORLD, Scene.each("claim(2, 0, #)", Edges.NO_PARTY));
        E.refused(-4, Scene.WORLD, "claim(2, 0, 1)", "claim(2, 0, 4)");
    }

    private static void claimNotEnded() {
        E.part("15: -2 not ENDED");
        E.refused(-2, Scene.WORLD, "claim(0, 0, 2)", "claim(1, 0, 1)", "claim(3, 2, 0)", "claim(4, 1, 5)");
        E.refused(-2, Scene.PAIR.then("lock(1, 1, 0, 9, 0, 50) = 0").signed(1, 0, 1).then("show(1, 0) = 3", "height(2)"), "claim(0, 0, 0)");
    }

    private static void claimNone() {
        E.part("15: -4 none is HELD there, it is not to p, or p does not KNOW the SECRET");
        E.refused(-4, Scene.WORLD, "claim(2, 1, 5)", "claim(2, 0, 0)", "claim(2, 2, 0)", "claim(2, 2, 5)", "claim(2, 2, 1)");
        E.run(Scene.WORLD, "claim(2, 0, 5) = 10", "account(5) = 9840", "told(2, 7) = 4", "told(2, 1) = 110", "knows(2) = 63", "knows(1) = 2");
        E.run(Scene.WORLD, "tell(1, 1, 0) = 1", "claim(2, 2, 0) = 30", "account(0) = 8980", "told(2, 7) = 1", "told(2, 1) = 90", "knows(1) = 63");
        E.refused(-4, Scene.WORLD.then("claim(2, 0, 5) = 10"), "claim(2, 0, 5)", "claim(2, 0, 0)");
        E.refused(-4, ended(Scene.TRIO), "claim(0, 0, 0)", "claim(0, 1, 1)", "claim(0, 2, 2)");
    }

    private static void claimWhen() {
        E.part("15: a LOCK is HELD until its EXPIRY");
        Scene held = ended(Scene.TRIO.then("lock(1, 1, 0, 40, 0, 6) = 0"));
        E.run(held, "claim(0, 0, 0) = 40", "account(0) = 10040", "account(1) = 9960");
        E.run(held, "height(5)", "claim(0, 0, 0) = 40", "height(1)", "account(1) = 9960");
        E.run(held, "height(6)", "claim(0, 0, 0) = -4", "account(0) = 10000", "account(1) = 10000", "told(0, 1) = 0", "knows(0) = 1");
    }

    private static void claimOrder() {
        E.part("15: the first of these that holds");
        E.refused(-1, Scene.WORLD, "claim(0, 3, 1)", "claim(0, 0, 6)", "claim(1, -1, -1)", "claim(2, 1, 6)", "claim(2, 3, 1)", "claim(5, 0, 0)");
        E.refused(-2, Scene.WORLD, "claim(0, 2, 5)", "claim(0, 0, 1)");
    }

    // ---- 16 step

    private static Scene heldGame(int heap) {
        return ended(Scene.TRIO.then("game(1, 1, 2, 50, " + heap + ") = 100"));
    }

    private static void stepWho() {
        E.part("16: -1 (p: any PARTY)");
        E.refused(-1, Scene.WORLD, Scene.each("step(#, 5, 1)", Edges.noneOf(5)));
        E.refused(-1, Scene.WORLD, Scene.each("step(2, #, 1)", Edges.NO_PARTY));
        E.refused(-4, Scene.WORLD, "step(2, 1, 1)", "step(2, 4, 1)");
    }

    private static void stepNone() {
        E.part("16: -2 none is HELD");
        E.refused(-2, Scene.WORLD, "step(0, 2, 1)", "step(1, 1, 1)", "step(3, 3, 1)");
        E.refused(-2, ended(Scene.TRIO), "step(0, 0, 1)");
        E.refused(-2, heldGame(3).then("step(0, 1, 3) = 0"), "step(0, 1, 1)", "step(0, 2, 1)");
        E.refused(-2, heldGame(3).then("height(3)"), "step(0, 1, 1)");
        E.refused(-2, Scene.PAIR.then("game(1, 0, 1, 5, 5) = 10").signed(1, 0, 1).then("show(1, 0) = 3", "height(2)"), "step(0, 0, 1)");
    }

    private static void stepTake() {
        E.part("16: -3 take (1 to 3)");
        E.run(heldGame(20), "step(0, 1, 1) = 19", "step(0, 2, 3) = 16", "step(0, 1, 2) = 14", "told(0, 9) = 14", "told(0, 8) = 2");
        E.refused(-3, heldGame(20), Scene.each("step(0, 1, #)", 0, -1, 4, Edges.MIN, Edges.MAX));
    }

    private static void stepTurn() {
        E.part("16: -4 it is not its TURN");
        E.refused(-4, heldGame(20), "step(0, 0, 1)", "step(0, 2, 1)", "step(0, 3, 1)", "step(0, 5, 3)");
        E.refused(-4, heldGame(20).then("step(0, 1, 1) = 19"), "step(0, 1, 1)", "step(0, 0, 1)");
    }

    private static void stepLast() {
        E.part("16: -4 a HEAP of less; if none are left, that one gets the STAKE, and it is HELD no more");
        for (int heap = 1; heap <= 3; heap++) {
            for (int take = heap + 1; take <= 3; take++) {
                E.refused(-4, heldGame(heap), "step(0, 1, " + take + ")");
            }
            E.run(heldGame(heap), "step(0, 1, " + heap + ") = 0", "account(1) = 10050", "account(2) = 9950", "told(0, 8) = -1",
                    "told(0, 9) = 0", "told(0, 10) = 0", "told(0, 11) = 0", "told(0, 1) = 0", "of(1, 9) = " + heap, "of(1, 8) = 100");
        }
        E.run(heldGame(4), "step(0, 1, 3) = 1", "told(0, 11) = 100", "step(0, 2, 1) = 0", "account(2) = 10050", "account(1) = 9950");
    }

    private static void stepDeadline() {
        E.part("16: it is the other one's TURN, the DEADLINE is HEIGHT + DELAY then");
        E.run(heldGame(20), "told(0, 10) = 3", "height(2)", "step(0, 1, 1) = 19", "told(0, 10) = 5", "step(0, 2, 1) = 18", "told(0, 10) = 5",
                "height(2)", "told(0, 8) = 1", "height(1)", "told(0, 8) = -1", "account(2) = 10050");
    }

    private static void stepOrder() {
        E.part("16: the first of these that holds");
        E.refused(-1, Scene.WORLD, "step(0, 6, 0)", "step(5, 0, 4)", "step(2, 6, 0)", "step(2, -1, 1)", "step(-1, 5, 1)");
        E.refused(-2, Scene.WORLD, "step(0, 2, 0)", "step(0, 1, 1)", "step(1, 5, 4)");
        E.refused(-3, Scene.WORLD, "step(2, 0, 0)", "step(2, 1, 4)", "step(2, 0, 4)");
        E.refused(-3, heldGame(2), "step(0, 1, 4)");
        E.refused(-4, heldGame(2), "step(0, 2, 3)");
    }

    // ---- 17 watch

    private static void watchWho() {
        E.part("17: -1");
        E.refused(-1, Scene.WORLD, Scene.each("watch(#, true)", Edges.NO_PARTY));
        E.refused(-1, Scene.WORLD, Scene.each("watch(#, false)", Edges.NO_PARTY));
    }

    private static void watchWas() {
        E.part("17: Answers whether it was (1, 0)");
        for (int p = 0; p < 6; p++) {
            E.run(Scene.NEW, "watch(" + p + ", false) = 0", "watch(" + p + ", true) = 0", "count(5) = " + (1 << p), "watch(" + p + ", true) = 1",
                    "count(5) = " + (1 << p), "watch(" + p + ", false) = 1", "count(5) = 0", "watch(" + p + ", false) = 0");
        }
        E.run(Scene.NEW.then(Scene.upTo(0, 5, "watch(#, true) = 0")), "count(5) = 63", "watch(3, false) = 1", "count(5) = 55");
    }
}
