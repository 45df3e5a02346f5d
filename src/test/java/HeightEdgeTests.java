/** Terms 3 and promise 18 at the edges that the document names: one height more, and what the watchers do then. */
public final class HeightEdgeTests {
    private static final Edges E = new Edges("HeightEdgeTests");

    public static void main(String[] args) {
        heightBounds();
        heightOneByOne();
        heightFarUp();
        closingEnds();
        closingEndsByNumbers();
        heldLocksGoBack();
        lockGoesBackWithTheEnd();
        heldGameIsOver();
        lockGoesBackBeforeItIsClaimed();
        gameIsOverBeforeTheMove();
        endBeforeTheNewestIsShown();
        onlyTheWatched();
        onlyMembers();
        openExpiry();
        openPlaces();
        openLockToIt();
        openKnows();
        openInTheNewest();
        openByNewest();
        closingNewestIsShown();
        closingByTheNewest();
        endedClaims();
        endedClaimsWhatItKnows();
        endedMoves();
        endedMovesInItsTurn();
        partiesByNumbers();
        partiesBeforeChannels();
        E.end();
    }

    private static Scene shown(Scene scene) {
        return scene.signed(1, 0, 1, 2).then("show(1, 0) = 3");
    }

    // ---- 18 height

    private static void heightBounds() {
        E.part("18: -3 n (1 to 100)");
        E.run(Scene.NEW, "height(1) = 1", "height(100) = 101", "height(99) = 200", "count(3) = 200");
        E.refused(-3, Scene.NEW, Scene.each("height(#)", 0, -1, 101, Edges.MIN, Edges.MAX));
        E.refused(-3, Scene.WORLD, Scene.each("height(#)", 0, -1, 101, Edges.MIN, Edges.MAX));
    }

    private static void heightOneByOne() {
        E.part("18: So many HEIGHTS more, one by one");
        Scene busy = Scene.TRIO.then("secret(2) = 1", "lock(1, 1, 0, 10, 0, 12) = 0", "lock(1, 0, 2, 20, 1, 20) = 1", "game(1, 1, 2, 5, 20) = 10")
                .signed(1, 0, 1, 2).then("watch(0, true)", "watch(1, true)", "watch(2, true)");
        E.likeEachOther(busy.then("height(24) = 24"), busy.times(24, "height(1)"), "24 at once and 24 by one");
        E.likeEachOther(Scene.WORLD.then("height(100) = 104"), Scene.WORLD.times(100, "height(1)"), "100 at once and 100 by one");
        E.run(busy.then("height(24) = 24"), "told(0, 0) = 3", "told(0, 7) = 0", "told(0, 8) = -1", "account(0) = 9990", "count(6) = 60000");
    }

    private static void heightFarUp() {
        E.part("18: as far up as 512 calls go");
        E.run(Scene.NEW.times(510, "height(100)"), "height(100) = 51100", "height(100) = 51200");
        E.run(Scene.NEW.times(500, "height(100)"), "count(3) = 50000", "channel(3, 1, 20) = 0", "show(0, 0) = 50020", "height(20) = 50020",
                "told(0, 0) = 3");
    }

    // ---- one height more: channels

    private static void closingEnds() {
        E.part("3: if it is CLOSING UNTIL this HEIGHT, it ENDS by that STATE");
        E.run(Scene.PAIR.then("show(0, 0) = 3"), "height(2)", "told(0, 0) = 2", "account(0) = 9900", "height(1)", "told(0, 0) = 3",
                "told(0, 5) = 0", "account(0) = 10000");
        E.run(Scene.PAIR.then("height(1)"), "show(0, 0) = 4", "height(2)", "told(0, 0) = 2", "height(1)", "told(0, 0) = 3");
        E.run(Scene.PAIR.then("change(1, 0, 1, 100) = 0").signed(1, 0, 1).then("show(0, 0) = 3", "height(2)", "show(1, 0) = 3"), "height(1)",
                "told(0, 5) = 1", "account(0) = 9900", "account(1) = 10100");
        E.run(Scene.PAIR.then("change(1, 0, 1, 100) = 0").signed(1, 0, 1).then("show(0, 0) = 3"), "height(3)", "told(0, 5) = 0",
                "account(0) = 10000");
        E.run(Scene.PAIR, "height(100)", "told(0, 0) = 1");
    }

    private static void closingEndsByNumbers() {
        E.part("3: for each CHANNEL");
        Scene eight = Scene.NEW.times(8, "channel(3, 10, 2)").then(Scene.upTo(0, 7, "show(#, 0) = 2"));
        E.run(eight, "height(1)", "account(0) = 9920", "height(1)", "account(0) = 10000", "account(1) = 10000", "told(0, 0) = 3", "told(7, 0) = 3");
        E.run(Scene.NEW.then("channel(3, 10, 2)", "channel(3, 10, 3)", "channel(3, 10, 2)", "show(2, 0) = 2", "height(1)", "show(0, 0) = 3",
                "show(1, 1) = 4"), "height(1)", "told(0, 0) = 2", "told(1, 0) = 2", "told(2, 0) = 3", "height(1)", "told(0, 0) = 3",
                "told(1, 0) = 2", "height(1)", "told(1, 0) = 3");
    }

    private static void heldLocksGoBack() {
        E.part("3: HELD LOCKS with this EXPIRY go back");
        Scene held = shown(Scene.TRIO.then("lock(1, 0, 1, 10, 0, 6) = 0", "lock(1, 1, 2, 20, 0, 5) = 1", "lock(1, 2, 0, 30, 0, 6) = 2"))
                .then("height(3)");
        E.run(held, "told(0, 7) = 7", "height(1)", "told(0, 7) = 7", "account(1) = 9980", "height(1)", "told(0, 7) = 5", "account(1) = 10000",
                "account(2) = 9970", "told(0, 1) = 40", "height(1)", "told(0, 7) = 0", "account(0) = 10000", "account(2) = 10000",
                "told(0, 1) = 0", "knows(0) = 1");
        E.run(held.then("claim(0, 2, 0) = 30"), "height(3)", "account(0) = 10030", "account(2) = 9970", "told(0, 7) = 0", "count(6) = 60000");
    }

    private static void lockGoesBackWithTheEnd() {
        E.part("3: a LOCK whose EXPIRY is the HEIGHT of the end is not HELD");
        E.run(shown(Scene.TRIO.then("lock(1, 0, 1, 10, 0, 3) = 0", "lock(1, 1, 2, 20, 0, 4) = 1")), "height(3)", "told(0, 7) = 2",
                "account(0) = 10000", "account(1) = 9980", "height(1)", "told(0, 7) = 0", "account(1) = 10000");
    }

    private static void heldGameIsOver() {
        E.part("3: if a HELD GAME has this DEADLINE, the one whose TURN it is not gets the STAKE, and it is over");
        Scene held = shown(Scene.TRIO.then("game(1, 1, 2, 50, 20) = 100")).then("height(3)");
        E.run(held, "told(0, 10) = 6", "height(2)", "told(0, 8) = 1", "told(0, 11) = 100", "height(1)", "told(0, 8) = -1", "told(0, 9) = 0",
                "told(0, 10) = 0", "told(0, 11) = 0", "told(0, 1) = 0", "account(2) = 10050", "account(1) = 9950");
        E.run(held.then("height(2)", "step(0, 1, 1) = 19"), "told(0, 10) = 8", "height(2)", "told(0, 8) = 2", "height(1)", "told(0, 8) = -1",
                "account(1) = 10050", "account(2) = 9950", "count(6) = 60000");
    }

    private static void lockGoesBackBeforeItIsClaimed() {
        E.part("3: HELD LOCKS go back. Then .. each HELD LOCK to it is CLAIMED");
        Scene held = shown(Scene.TRIO.then("lock(1, 1, 0, 40, 0, 6) = 0")).then("height(3)");
        E.run(held.then("height(2)", "watch(0, true)"), "height(1)", "account(1) = 10000", "account(0) = 10000", "knows(0) = 1");
        E.run(held.then("height(1)", "watch(0, true)"), "height(1)", "account(1) = 9960", "account(0) = 10040", "knows(0) = 63");
        E.run(shown(Scene.TRIO.then("lock(1, 1, 0, 40, 0, 4) = 0")).then("watch(0, true)", "height(2)"), "height(1)", "account(0) = 10040");
        E.run(shown(Scene.TRIO.then("lock(1, 1, 0, 40, 0, 3) = 0")).then("watch(0, true)", "height(2)"), "height(1)", "account(0) = 10000");
    }

    private static void gameIsOverBeforeTheMove() {
        E.part("3: a HELD GAME with this DEADLINE is over. Then .. a MOVE");
        Scene held = shown(Scene.TRIO.then("game(1, 1, 2, 50, 20) = 100")).then("height(3)");
        E.run(held.then("height(2)", "watch(1, true)"), "height(1)", "told(0, 8) = -1", "account(2) = 10050");
        E.run(held.then("height(1)", "watch(1, true)"), "height(1)", "told(0, 8) = 2", "told(0, 9) = 19", "told(0, 10) = 8");
    }

    private static void endBeforeTheNewestIsShown() {
        E.part("3: it ENDS by that STATE. Then .. THE NEWEST is SHOWN");
        Scene closing = Scene.TRIO.then("change(1, 0, 1, 100) = 0").signed(1, 0, 1, 2).then("show(0, 0) = 3");
        E.run(closing.then("height(2)", "watch(1, true)"), "height(1)", "told(0, 0) = 3", "told(0, 5) = 0", "account(1) = 10000");
        E.run(closing.then("height(1)", "watch(1, true)"), "height(1)", "told(0, 5) = 1", "height(1)", "told(0, 5) = 1", "account(1) = 10100");
    }

    // ---- one height more: watchers

    private static void onlyTheWatched() {
        E.part("3: for each PARTY that is WATCHED");
        Scene closing = Scene.TRIO.signed(1, 0, 1, 2).then("show(0, 0) = 3");
        E.run(closing, "height(2)", "told(0, 5) = 0");
        for (int p = 0; p < 3; p++) {
            E.run(closing.then("watch(" + p + ", true) = 0"), "told(0, 5) = 0", "height(1)", "told(0, 5) = 1");
            E.run(closing.then("watch(" + p + ", true) = 0", "watch(" + p + ", false) = 1"), "height(2)", "told(0, 5) = 0");
        }
    }

    private static void onlyMembers() {
        E.part("3: for each CHANNEL of which it is a MEMBER");
        Scene closing = Scene.TRIO.signed(1, 0, 1, 2).then("show(0, 0) = 3");
        E.run(closing.then(Scene.upTo(3, 5, "watch(#, true) = 0")), "height(2)", "told(0, 5) = 0");
        Scene last = Scene.NEW.times(7, "channel(3, 1, 2)").then("channel(48, 1, 3) = 7", "state(7) = 8", "sign(8, 4)", "sign(8, 5)",
                "show(7, 4) = 3");
        E.run(last.then("watch(5, true) = 0"), "height(1)", "told(7, 5) = 8", "told(7, 6) = 3");
    }

    /** A lock of 40 from 1 to 0, of which 0 knows the secret, in the newest; the delay is 3. */
    private static Scene openLock(int expiry) {
        return Scene.TRIO.then("lock(1, 1, 0, 40, 0, " + expiry + ") = 0").signed(1, 0, 1, 2);
    }

    private static void openExpiry() {
        E.part("3: OPEN: a LOCK with EXPIRY HEIGHT + DELAY + 1");
        Scene watched = openLock(20).then("watch(0, true)");
        E.run(watched, "height(15)", "told(0, 0) = 1", "height(1)", "told(0, 0) = 2", "told(0, 5) = 1", "told(0, 6) = 19", "height(2)",
                "told(0, 0) = 2", "height(1)", "told(0, 0) = 3", "told(0, 7) = 0", "account(0) = 10040", "account(1) = 9960");
        E.run(openLock(20).then("height(15)", "watch(0, true)"), "told(0, 0) = 1", "height(1)", "told(0, 0) = 2");
        E.run(openLock(20).then("height(16)", "watch(0, true)"), "told(0, 0) = 1", "height(60)", "told(0, 0) = 1");
        E.run(openLock(5).then("watch(0, true)"), "height(1)", "told(0, 0) = 2", "told(0, 6) = 4");
        E.run(openLock(4).then("watch(0, true)"), "height(60)", "told(0, 0) = 1");
        E.run(openLock(1).then("watch(0, true)"), "height(60)", "told(0, 0) = 1");
        E.run(openLock(1000000).then("watch(0, true)"), "height(100)", "told(0, 0) = 1");
        for (int delay = 2; delay <= 20; delay += 18) {
            Scene scene = Scene.NEW.then("channel(3, 9, " + delay + ") = 0", "secret(1) = 0", "state(0) = 1",
                    "lock(1, 0, 1, 9, 0, " + (delay + 8) + ") = 0").signed(1, 0, 1).then("watch(1, true)");
            E.run(scene, "height(6)", "told(0, 0) = 1", "height(1)", "told(0, 0) = 2", "told(0, 6) = " + (7 + delay));
        }
    }

    private static void openPlaces() {
        E.part("3: OPEN: if there is a LOCK, whatever its place");
        for (int place = 0; place < 3; place++) {
            Scene scene = Scene.TRIO;
            for (int i = 0; i < 3; i++) {
                scene = scene.then("lock(1, 1, 0, 5, 0, " + (i == place ? 10 : 30) + ") = " + i);
            }
            E.run(scene.signed(1, 0, 1, 2).then("watch(0, true)"), "height(5)", "told(0, 0) = 1", "height(1)", "told(0, 0) = 2");
            Scene alone = scene;
            for (int i = 0; i < 3; i++) {
                alone = i == place ? alone : alone.then("unlock(1, " + i + ", false) = 5");
            }
            E.run(alone.signed(1, 0, 1, 2).then("watch(0, true)"), "height(5)", "told(0, 0) = 1", "height(1)", "told(0, 0) = 2");
        }
    }

    private static void openLockToIt() {
        E.part("3: OPEN: a LOCK to it");
        E.run(openLock(20).then("tell(0, 0, 1)", "tell(0, 0, 2)", "watch(1, true)", "watch(2, true)"), "height(60)", "told(0, 0) = 1");
        E.run(openLock(20).then("watch(1, true)", "watch(0, true)"), "height(16)", "told(0, 0) = 2");
    }

    private static void openKnows() {
        E.part("3: OPEN: of a SECRET that it KNOWS");
        Scene scene = Scene.TRIO.then("secret(2) = 1", "lock(1, 1, 0, 40, 1, 20) = 0").signed(1, 0, 1, 2).then("watch(0, true)");
        E.run(scene, "height(60)", "told(0, 0) = 1");
        E.run(scene.then("height(15)"), "tell(1, 2, 0) = 1", "height(1)", "told(0, 0) = 2");
        E.run(scene.then("height(16)"), "tell(1, 2, 0) = 1", "height(60)", "told(0, 0) = 1");
    }

    private static void openInTheNewest() {
        E.part("3: OPEN: in THE NEWEST");
        E.run(Scene.TRIO.then("lock(1, 1, 0, 40, 0, 20) = 0", "watch(0, true)"), "height(60)", "told(0, 0) = 1");
        E.run(Scene.TRIO.then("lock(1, 1, 0, 40, 0, 20) = 0", "watch(0, true)").signed(1, 0, 1), "height(60)", "told(0, 0) = 1");
        Scene older = openLock(20).then("state(0) = 2", "unlock(2, 0, true) = 40", "watch(0, true)");
        E.run(older.signed(2, 0, 1, 2), "height(60)", "told(0, 0) = 1");
        E.run(older.signed(2, 0, 1), "height(16)", "told(0, 0) = 2", "told(0, 5) = 1");
    }

    private static void openByNewest() {
        E.part("3: OPEN: THE NEWEST is SHOWN");
        Scene newer = openLock(20).then("state(0) = 2").signed(2, 0, 1, 2).then("watch(0, true)");
        E.run(newer, "height(16)", "told(0, 0) = 2", "told(0, 5) = 2", "told(0, 6) = 19");
    }

    private static void closingNewestIsShown() {
        E.part("3: CLOSING: THE NEWEST is SHOWN, if its RANK is greater");
        Scene scene = Scene.TRIO.signed(1, 0, 1, 2).then("state(0) = 2").signed(2, 0, 1, 2).then("state(0) = 3", "sign(3, 0) = 1");
        E.run(scene.then("show(0, 0) = 3", "watch(2, true)"), "height(1)", "told(0, 5) = 2", "told(0, 6) = 3", "height(1)", "told(0, 6) = 3",
                "height(1)", "told(0, 0) = 3", "told(0, 5) = 2");
        E.run(scene.then("show(1, 0) = 3", "watch(2, true)"), "height(1)", "told(0, 5) = 2", "told(0, 6) = 3");
        E.run(scene.then("show(1, 0) = 3", "watch(2, true)", "height(1)").signed(3, 1, 2), "told(0, 5) = 2", "height(1)", "told(0, 5) = 3");
    }

    private static void closingByTheNewest() {
        E.part("3: CLOSING by THE NEWEST: nothing is SHOWN");
        E.run(Scene.TRIO.signed(1, 0, 1, 2).then("show(1, 0) = 3", "watch(2, true)"), "height(2)", "told(0, 5) = 1", "told(0, 6) = 3", "told(0, 0) = 2");
        E.run(Scene.TRIO.then("show(0, 0) = 3", "watch(2, true)"), "height(2)", "told(0, 5) = 0", "height(1)", "told(0, 5) = 0", "told(0, 0) = 3");
    }

    private static void endedClaims() {
        E.part("3: ENDED: each HELD LOCK to it is CLAIMED");
        Scene locks = Scene.TRIO.then("lock(1, 1, 0, 1, 0, 50) = 0", "lock(1, 2, 0, 2, 0, 50) = 1", "lock(1, 1, 0, 4, 0, 50) = 2");
        E.run(shown(locks).then("watch(0, true)", "height(2)"), "told(0, 0) = 2", "height(1)", "told(0, 7) = 0", "told(0, 1) = 0",
                "account(0) = 10007", "account(1) = 9995", "account(2) = 9998", "knows(0) = 63");
        Scene held = shown(locks).then("height(3)");
        for (int place = 0; place < 3; place++) {
            E.run(held.then("claim(0, " + place + ", 0) = " + (1 << place), "watch(0, true)"), "told(0, 7) = " + (7 - (1 << place)), "height(1)",
                    "told(0, 7) = 0", "account(0) = 10007");
        }
        E.run(held.then("watch(1, true)", "watch(2, true)"), "height(40)", "told(0, 7) = 7", "account(0) = 10000");
    }

    private static void endedClaimsWhatItKnows() {
        E.part("3: ENDED: if it KNOWS the SECRET");
        Scene held = shown(Scene.TRIO.then("secret(1) = 1", "secret(0) = 2", "lock(1, 1, 0, 1, 0, 50) = 0", "lock(1, 1, 0, 2, 1, 50) = 1",
                "lock(1, 1, 0, 4, 2, 50) = 2")).then("height(3)", "watch(0, true)");
        E.run(held, "height(1)", "told(0, 7) = 2", "account(0) = 10005", "knows(0) = 63", "knows(1) = 2", "knows(2) = 63", "height(10)",
                "told(0, 7) = 2", "tell(1, 1, 0) = 1", "height(1)", "told(0, 7) = 0", "account(0) = 10007");
    }

    private static void endedMoves() {
        E.part("3: ENDED: a MOVE, by as many as are left over when the HEAP is dealt out by fours; if none are, by 1");
        for (int heap = 1; heap <= 20; heap++) {
            Scene held = shown(Scene.TRIO.then("game(1, 1, 2, 50, " + heap + ") = 100")).then("height(4)", "watch(1, true)");
            int[] takes = {1, 1, 2, 3};
            int left = heap - takes[heap % 4];
            E.run(held, "height(1)", "told(0, 9) = " + left, "told(0, 8) = " + (left == 0 ? -1 : 2), "told(0, 10) = " + (left == 0 ? 0 : 8),
                    "account(1) = " + (left == 0 ? 10050 : 9950));
        }
    }

    private static void endedMovesInItsTurn() {
        E.part("3: ENDED: if it has the TURN in a HELD GAME");
        Scene held = shown(Scene.TRIO.then("game(1, 1, 2, 50, 6) = 100"));
        E.run(held.then("height(3)", "watch(0, true)", "watch(2, true)"), "height(2)", "told(0, 9) = 6", "height(1)", "told(0, 8) = -1",
                "account(2) = 10050");
        E.run(held.then("watch(1, true)", "height(2)"), "told(0, 8) = -1", "height(1)", "told(0, 9) = 4", "told(0, 8) = 2", "told(0, 10) = 6",
                "height(2)", "told(0, 9) = 4", "height(1)", "told(0, 8) = -1", "account(1) = 10050");
    }

    private static void partiesByNumbers() {
        E.part("3: for each PARTY by numbers");
        Scene game = Scene.TRIO.then("watch(1, true)", "watch(2, true)");
        E.run(shown(game.then("game(1, 1, 2, 50, 20) = 100")), "height(3)", "told(0, 9) = 16", "told(0, 8) = 1");
        E.run(shown(game.then("game(1, 2, 1, 50, 20) = 100")), "height(3)", "told(0, 9) = 19", "told(0, 8) = 1", "height(1)", "told(0, 9) = 15",
                "told(0, 8) = 1");
        Scene locks = Scene.TRIO.then("secret(1) = 1", "lock(1, 1, 0, 10, 1, 20) = 0", "lock(1, 0, 1, 20, 1, 20) = 1", "lock(1, 0, 2, 30, 1, 20) = 2",
                "watch(0, true)", "watch(1, true)", "watch(2, true)");
        E.run(shown(locks), "height(3)", "told(0, 7) = 1", "knows(1) = 63", "height(1)", "told(0, 7) = 0");
    }

    private static void partiesBeforeChannels() {
        E.part("3: for each PARTY .., for each CHANNEL by numbers");
        Scene scene = Scene.NEW.then("channel(3, 50, 2) = 0", "channel(3, 50, 2) = 1", "secret(1) = 0", "state(0) = 2", "state(1) = 3",
                "lock(2, 0, 1, 1, 0, 20) = 0", "lock(3, 1, 0, 2, 0, 20) = 0").signed(2, 0, 1).signed(3, 0, 1)
                .then("show(2, 0) = 2", "show(3, 0) = 2", "watch(0, true)", "watch(1, true)");
        E.run(scene, "height(2)", "told(0, 7) = 0", "told(1, 7) = 1", "knows(0) = 63", "height(1)", "told(1, 7) = 0");
    }
}
