/** Promises 1 to 9: what there is, new channels and states, and the changes of a state. */
public final class StateTests {
    private static final Due DUE = new Due("StateTests");

    private static void same(String call, int got, int want) {
        DUE.same(call, got, want);
    }

    public static void main(String[] args) {
        newObject();
        channel();
        channelRefusals();
        state();
        stateRefusals();
        change();
        changeRefusals();
        lock();
        lockRefusals();
        unlock();
        game();
        gameRefusals();
        move();
        out();
        fixedStates();
        DUE.end();
    }

    private static void newObject() {
        DUE.part("promise 1");
        StateChannels x = new StateChannels();
        for (int what = 0; what <= 5; what++) {
            same("count(" + what + ")", x.count(what), 0);
        }
        for (int p = 0; p <= 5; p++) {
            same("account(" + p + ")", x.account(p), 10000);
        }
        same("told of none", x.told(0, 0), -1);
        same("of of none", x.of(0, 0), -1);
        same("knows of none", x.knows(0), -1);
        same("all", x.count(6), 60000);
    }

    private static void channel() {
        DUE.part("promise 2");
        StateChannels x = new StateChannels();
        same("channel", x.channel(0b101101, 10000, 20), 0);
        same("account of a member", x.account(3), 0);
        same("account of another", x.account(1), 10000);
        same("phase", x.told(0, 0), 1);
        same("sum", x.told(0, 1), 40000);
        same("delay", x.told(0, 2), 20);
        same("members", x.told(0, 3), 0b101101);
        same("newest", x.told(0, 4), 0);
        same("by", x.told(0, 5), -1);
        same("until", x.told(0, 6), 0);
        same("held", x.told(0, 7), 0);
        same("share", x.share(0, 5, 0), 10000);
        same("out", x.share(0, 5, 1), 0);
        same("share of no member", x.share(0, 1, 0), -1);
        same("its channel", x.of(0, 0), 0);
        same("rank", x.of(0, 1), 0);
        same("signed", x.of(0, 2), 0b101101);
        same("agreed", x.of(0, 3), 0);
        same("counts", x.of(0, 4), 1);
        same("turn", x.of(0, 6), -1);
        same("lock", x.locked(0, 0, 0), -1);
        same("v 0, delay 2", x.channel(0b11, 0, 2), 1);
        same("its state", x.told(1, 4), 1);
        same("its rank", x.of(1, 1), 0);
        same("it counts", x.of(1, 4), 1);
    }

    private static StateChannels poorFirst() {
        StateChannels x = new StateChannels();
        x.channel(3, 6000, 2);
        return x;
    }

    private static void channelRefusals() {
        DUE.part("promise 2, refusals");
        StateChannels x = new StateChannels();
        same("set 64", x.channel(64, 1, 2), -1);
        same("set -1", x.channel(-1, 1, 2), -1);
        same("least set", x.channel(Integer.MIN_VALUE, 1, 2), -1);
        same("-1 before -3", x.channel(64, -1, 1), -1);
        same("v -1", x.channel(3, -1, 2), -3);
        same("v 10001", x.channel(3, 10001, 2), -3);
        same("delay 1", x.channel(3, 1, 1), -3);
        same("delay 21", x.channel(3, 1, 21), -3);
        same("no member", x.channel(0, 1, 2), -3);
        same("one member", x.channel(4, 1, 2), -3);
        same("five members", x.channel(31, 1, 2), -3);
        same("six members", x.channel(63, 1, 2), -3);
        same("channel", x.channel(6, 6000, 2), 0);
        same("account with less", x.channel(3, 4001, 2), -4);
        same("nothing changed", x.account(0), 10000);
        same("-3 before -4", x.channel(3, 4001, 1), -3);
        same("the first party's account with less", poorFirst().channel(5, 4001, 2), -4);
        same("all of an account", x.channel(3, 4000, 2), 1);
        for (int c = 2; c < 8; c++) {
            same("channel " + c, x.channel(48, 1, 2), c);
        }
        same("a ninth", x.channel(48, 1, 2), -4);
        same("-3 before -4", x.channel(48, 1, 21), -3);
        same("eight", x.count(0), 8);

        StateChannels y = new StateChannels();
        y.channel(3, 1, 2);
        for (int s = 1; s < 64; s++) {
            same("state " + s, y.state(0), s);
        }
        same("no state left", y.channel(3, 1, 2), -4);
        same("channels", y.count(0), 1);
        same("account", y.account(0), 9999);
    }

    private static void state() {
        DUE.part("promise 3");
        StateChannels x = new StateChannels();
        x.channel(7, 100, 2);
        x.secret(0);
        x.state(0);
        x.change(1, 0, 1, 30);
        x.lock(1, 1, 2, 20, 0, 9);
        x.lock(1, 0, 2, 5, 0, 8);
        x.game(1, 2, 0, 10, 5);
        x.out(1, 2, 40);
        same("another unsigned one", x.state(0), 2);
        same("as the newest, not the last", x.share(2, 0, 0), 100);
        x.sign(1, 0);
        x.sign(1, 1);
        x.sign(1, 2);
        x.agree(1, 0);
        same("as the newest", x.state(0), 3);
        same("rank", x.of(3, 1), 3);
        same("signed", x.of(3, 2), 0);
        same("agreed", x.of(3, 3), 0);
        same("counts", x.of(3, 4), 0);
        same("whole", x.of(3, 5), 300);
        same("turn", x.of(3, 6), 2);
        same("other", x.of(3, 7), 0);
        same("stake", x.of(3, 8), 20);
        same("heap", x.of(3, 9), 5);
        same("share 0", x.share(3, 0, 0), 55);
        same("share 1", x.share(3, 1, 0), 110);
        same("share 2", x.share(3, 2, 0), 90);
        same("no out", x.share(3, 2, 1), 0);
        same("out of the newest", x.share(1, 2, 1), 40);
        same("lock 0", x.locked(3, 0, 2), 20);
        same("lock 1", x.locked(3, 1, 4), 8);
        same("lock 2", x.locked(3, 2, 0), -1);
        x.unlock(3, 0, true);
        x.move(3, 3);
        same("the newest keeps its lock", x.locked(1, 0, 2), 20);
        same("and its game", x.of(1, 9), 5);
        x.show(1, 0);
        same("when closing", x.state(0), 4);
        x.channel(24, 1, 2);
        same("rank in another channel", x.of(5, 1), 0);
        same("number", x.state(1), 6);
        same("rank", x.of(6, 1), 1);
    }

    private static void stateRefusals() {
        DUE.part("promise 3, refusals");
        StateChannels x = new StateChannels();
        same("no channel", x.state(0), -1);
        same("no channel", x.state(-1), -1);
        same("no channel", x.state(8), -1);
        x.channel(3, 1, 2);
        x.channel(3, 1, 2);
        x.agree(0, 0);
        x.agree(0, 1);
        same("ended", x.state(0), -2);
        for (int s = 2; s < 64; s++) {
            same("state", x.state(1), s);
        }
        same("no more", x.state(1), -4);
        same("-2 before -4", x.state(0), -2);
        same("states", x.count(1), 64);
        same("the last one's rank", x.of(63, 1), 62);
    }

    private static void change() {
        DUE.part("promise 4");
        StateChannels x = new StateChannels();
        x.channel(7, 100, 2);
        x.state(0);
        same("change", x.change(1, 0, 2, 1), 99);
        same("change", x.change(1, 2, 1, 101), 0);
        same("share", x.share(1, 1, 0), 201);
        same("whole", x.of(1, 5), 300);
        x.out(1, 1, 200);
        same("free is less", x.change(1, 1, 0, 2), -4);
        same("all that is free", x.change(1, 1, 0, 1), 200);
        same("the first one's first state", x.share(0, 0, 0), 100);
    }

    private static void changeRefusals() {
        DUE.part("promise 4, refusals");
        StateChannels x = new StateChannels();
        x.channel(7, 10000, 2);
        x.state(0);
        same("no state", x.change(2, 0, 1, 1), -1);
        same("no state", x.change(-1, 0, 1, 1), -1);
        same("no member", x.change(1, 3, 1, 1), -1);
        same("no member", x.change(1, 0, 5, 1), -1);
        same("no party", x.change(1, 0, 6, 1), -1);
        same("no party", x.change(1, -1, 0, 1), -1);
        same("signed", x.change(0, 0, 1, 1), -2);
        same("-1 before -2", x.change(0, 0, 3, 1), -1);
        same("-2 before -3", x.change(0, 0, 1, 0), -2);
        same("v 0", x.change(1, 0, 1, 0), -3);
        same("v -5", x.change(1, 0, 1, -5), -3);
        same("v 60001", x.change(1, 0, 1, 60001), -3);
        same("-3 before -4", x.change(1, 0, 0, 0), -3);
        same("v 60000", x.change(1, 0, 1, 60000), -4);
        same("the same one", x.change(1, 0, 0, 1), -4);
        same("nothing changed", x.share(1, 0, 0), 10000);
    }

    private static void lock() {
        DUE.part("promise 5");
        StateChannels x = new StateChannels();
        x.channel(7, 100, 2);
        x.secret(5);
        x.secret(5);
        x.state(0);
        same("place 0", x.lock(1, 0, 1, 30, 1, 1), 0);
        same("place 1", x.lock(1, 1, 2, 100, 0, 1000000), 1);
        same("place 2", x.lock(1, 0, 2, 70, 0, 7), 2);
        same("share", x.share(1, 0, 0), 0);
        same("share of the one to which it is", x.share(1, 2, 0), 100);
        same("from", x.locked(1, 1, 0), 1);
        same("to", x.locked(1, 1, 1), 2);
        same("how much", x.locked(1, 1, 2), 100);
        same("secret", x.locked(1, 0, 3), 1);
        same("expiry", x.locked(1, 1, 4), 1000000);
        same("whole", x.of(1, 5), 300);
        same("no place", x.lock(1, 2, 0, 1, 0, 7), -4);
        x.unlock(1, 1, false);
        x.unlock(1, 0, false);
        same("first empty place", x.lock(1, 2, 0, 1, 0, 7), 0);
        same("next one", x.lock(1, 2, 0, 1, 0, 7), 1);
    }

    private static void lockRefusals() {
        DUE.part("promise 5, refusals");
        StateChannels x = new StateChannels();
        x.channel(7, 100, 2);
        x.state(0);
        same("no secret", x.lock(1, 0, 1, 1, 0, 1), -1);
        same("no secret before -2", x.lock(0, 0, 1, 1, 0, 1), -1);
        x.secret(0);
        same("no secret", x.lock(1, 0, 1, 1, 1, 1), -1);
        same("no secret", x.lock(1, 0, 1, 1, -1, 1), -1);
        same("no state", x.lock(2, 0, 1, 1, 0, 1), -1);
        same("no member", x.lock(1, 3, 1, 1, 0, 1), -1);
        same("no member", x.lock(1, 0, 3, 1, 0, 1), -1);
        same("no party", x.lock(1, 0, 77, 1, 0, 1), -1);
        same("signed", x.lock(0, 0, 1, 0, 0, 1), -2);
        same("v 0", x.lock(1, 0, 1, 0, 0, 1), -3);
        same("v 60001", x.lock(1, 0, 1, 60001, 0, 1), -3);
        same("expiry 0", x.lock(1, 0, 1, 1, 0, 0), -3);
        same("expiry 1000001", x.lock(1, 0, 1, 1, 0, 1000001), -3);
        same("-3 before -4", x.lock(1, 0, 0, 1, 0, 0), -3);
        same("the same one", x.lock(1, 0, 0, 1, 0, 1), -4);
        same("share is less", x.lock(1, 0, 1, 101, 0, 1), -4);
        same("v 60000", x.lock(1, 0, 1, 60000, 0, 1), -4);
        x.out(1, 0, 60);
        same("free is less", x.lock(1, 0, 1, 41, 0, 1), -4);
        same("all that is free", x.lock(1, 0, 1, 40, 0, 1), 0);
        same("no lock came", x.locked(1, 1, 0), -1);
    }

    private static void unlock() {
        DUE.part("promise 6");
        StateChannels x = new StateChannels();
        x.channel(7, 100, 2);
        x.secret(0);
        x.state(0);
        x.lock(1, 0, 1, 30, 0, 5);
        x.lock(1, 0, 2, 20, 0, 5);
        same("opened", x.unlock(1, 0, true), 30);
        same("to", x.share(1, 1, 0), 130);
        same("gone", x.locked(1, 0, 0), -1);
        same("gone", x.unlock(1, 0, true), -1);
        same("not opened", x.unlock(1, 1, false), 20);
        same("from", x.share(1, 0, 0), 70);
        same("to", x.share(1, 2, 0), 100);
        same("no lock", x.unlock(1, 2, false), -1);
        same("no place", x.unlock(1, 3, false), -1);
        same("no place", x.unlock(1, -1, false), -1);
        same("no state", x.unlock(2, 0, false), -1);
        same("no lock before -2", x.unlock(0, 0, false), -1);
        x.lock(1, 0, 1, 30, 0, 5);
        x.sign(1, 0);
        same("signed", x.unlock(1, 0, true), -2);
        same("it stays", x.locked(1, 0, 2), 30);
    }

    private static void game() {
        DUE.part("promise 7");
        StateChannels x = new StateChannels();
        x.channel(14, 10000, 2);
        x.state(0);
        same("game", x.game(1, 3, 1, 10000, 20), 20000);
        same("turn", x.of(1, 6), 3);
        same("other", x.of(1, 7), 1);
        same("stake", x.of(1, 8), 20000);
        same("heap", x.of(1, 9), 20);
        same("share", x.share(1, 3, 0), 0);
        same("share", x.share(1, 1, 0), 0);
        same("whole", x.of(1, 5), 30000);
        x.state(0);
        same("heap 1, v 1", x.game(2, 1, 2, 1, 1), 2);
        same("it is over", x.move(2, 1), 0);
        same("a game after it", x.game(2, 1, 2, 1, 1), 2);
    }

    private static void gameRefusals() {
        DUE.part("promise 7, refusals");
        StateChannels x = new StateChannels();
        x.channel(7, 100, 2);
        x.state(0);
        same("no state", x.game(2, 0, 1, 1, 1), -1);
        same("no member", x.game(1, 0, 3, 1, 1), -1);
        same("no party", x.game(1, 6, 0, 1, 1), -1);
        same("signed", x.game(0, 0, 1, 0, 0), -2);
        same("v 0", x.game(1, 0, 1, 0, 1), -3);
        same("v 10001", x.game(1, 0, 1, 10001, 1), -3);
        same("heap 0", x.game(1, 0, 1, 1, 0), -3);
        same("heap 21", x.game(1, 0, 1, 1, 21), -3);
        same("-3 before -4", x.game(1, 0, 0, 1, 21), -3);
        same("the same one", x.game(1, 0, 0, 1, 1), -4);
        same("share is less", x.game(1, 0, 1, 101, 1), -4);
        x.out(1, 0, 60);
        same("free of the first", x.game(1, 0, 1, 41, 1), -4);
        same("free of the second", x.game(1, 1, 0, 41, 1), -4);
        same("all that is free", x.game(1, 1, 0, 40, 1), 80);
        same("there is one", x.game(1, 1, 2, 1, 1), -4);
        same("shares stay", x.share(1, 2, 0), 100);
    }

    private static void move() {
        DUE.part("promise 8");
        StateChannels x = new StateChannels();
        x.channel(3, 100, 2);
        x.state(0);
        same("no state", x.move(2, 1), -1);
        same("signed", x.move(0, 4), -2);
        same("take 0", x.move(1, 0), -3);
        same("take 4", x.move(1, 4), -3);
        same("no game", x.move(1, 1), -4);
        x.game(1, 1, 0, 10, 6);
        same("move", x.move(1, 3), 3);
        same("turn", x.of(1, 6), 0);
        same("other", x.of(1, 7), 1);
        same("move", x.move(1, 1), 2);
        same("turn", x.of(1, 6), 1);
        same("a heap of less", x.move(1, 3), -4);
        same("stake stays", x.of(1, 8), 20);
        same("the last ones", x.move(1, 2), 0);
        same("no turn", x.of(1, 6), -1);
        same("no other", x.of(1, 7), -1);
        same("no stake", x.of(1, 8), 0);
        same("no heap", x.of(1, 9), 0);
        same("it gets the stake", x.share(1, 1, 0), 110);
        same("the other one", x.share(1, 0, 0), 90);
        same("no game", x.move(1, 1), -4);
    }

    private static void out() {
        DUE.part("promise 9");
        StateChannels x = new StateChannels();
        x.channel(3, 100, 2);
        x.state(0);
        same("out", x.out(1, 0, 100), 0);
        same("told", x.share(1, 0, 1), 100);
        same("share stays", x.share(1, 0, 0), 100);
        same("another out", x.out(1, 0, 7), 100);
        same("none again", x.out(1, 0, 0), 7);
        same("its share is less", x.out(1, 0, 101), -4);
        same("v 60000", x.out(1, 0, 60000), -4);
        same("v 60001", x.out(1, 0, 60001), -3);
        same("v -1", x.out(1, 0, -1), -3);
        same("signed", x.out(0, 0, -1), -2);
        same("no member", x.out(0, 2, 1), -1);
        same("no party", x.out(1, -7, 1), -1);
        same("no state", x.out(2, 0, 1), -1);
        same("the other one has none", x.share(1, 1, 1), 0);
    }

    private static void fixedStates() {
        DUE.part("to change a state");
        StateChannels x = new StateChannels();
        x.channel(3, 100, 2);
        x.secret(0);
        x.state(0);
        x.lock(1, 0, 1, 5, 0, 9);
        x.state(0);
        x.sign(2, 1);
        same("somebody signed it", x.change(2, 0, 1, 1), -2);
        same("somebody signed it", x.lock(2, 0, 1, 1, 0, 1), -2);
        same("somebody signed it", x.game(2, 0, 1, 1, 1), -2);
        same("somebody signed it", x.move(2, 1), -2);
        same("somebody signed it", x.out(2, 0, 1), -2);
        x.show(0, 0);
        same("when closing", x.change(1, 0, 1, 1), 94);
        x.height(2);
        same("ended", x.change(1, 0, 1, 1), -2);
        same("ended", x.lock(1, 0, 1, 1, 0, 1), -2);
        same("ended", x.unlock(1, 0, true), -2);
        same("ended", x.game(1, 0, 1, 1, 1), -2);
        same("ended", x.move(1, 1), -2);
        same("ended", x.out(1, 0, 1), -2);
        same("what it tells stays", x.share(1, 0, 0), 94);
    }
}
