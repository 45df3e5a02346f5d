/** Promises 10 to 18: signing, showing, agreeing, secrets, what is held, watchers and heights. */
public final class LedgerTests {
    private static final Due DUE = new Due("LedgerTests");

    private static void same(String call, int got, int want) {
        DUE.same(call, got, want);
    }

    public static void main(String[] args) {
        sign();
        show();
        showRefusals();
        agree();
        agreeRefusals();
        withdrawal();
        secret();
        tell();
        ending();
        claim();
        claimRefusals();
        step();
        stepRefusals();
        watch();
        height();
        expiredLocks();
        deadline();
        watcherOfOpen();
        watcherOfClosing();
        watcherClaims();
        watcherOrder();
        watcherPlays();
        DUE.end();
    }

    private static void signAll(StateChannels x, int s) {
        for (int p = 0; p < 6; p++) {
            x.sign(s, p);
        }
    }

    /** One channel of 0, 1 and 2 with 100 from each, delay 3, a secret 0 of party 0 and an unsigned state 1. */
    private static StateChannels three() {
        StateChannels x = new StateChannels();
        x.channel(7, 100, 3);
        x.secret(0);
        x.state(0);
        return x;
    }

    private static void sign() {
        DUE.part("promise 10");
        StateChannels x = three();
        same("no state", x.sign(2, 0), -1);
        same("no member", x.sign(1, 3), -1);
        same("no party", x.sign(1, 6), -1);
        same("sign", x.sign(1, 2), 1);
        same("again", x.sign(1, 2), -4);
        same("who", x.of(1, 2), 4);
        same("sign", x.sign(1, 0), 2);
        same("it does not count", x.of(1, 4), 0);
        same("newest", x.told(0, 4), 0);
        same("sign", x.sign(1, 1), 3);
        same("who", x.of(1, 2), 7);
        same("it counts", x.of(1, 4), 1);
        same("newest", x.told(0, 4), 1);
        x.state(0);
        x.state(0);
        signAll(x, 3);
        signAll(x, 2);
        same("an older one counts", x.of(2, 4), 1);
        same("the greatest rank", x.told(0, 4), 3);
        x.state(0);
        x.show(0, 0);
        same("when closing", x.sign(4, 0), 1);
        x.height(3);
        same("ended", x.sign(4, 1), -2);
        same("-2 before -4", x.sign(4, 0), -2);
        same("-1 before -2", x.sign(4, 4), -1);
        same("none counts", x.of(3, 4), 0);
    }

    private static void show() {
        DUE.part("promise 11");
        StateChannels x = three();
        signAll(x, 1);
        x.state(0);
        signAll(x, 2);
        x.height(4);
        same("show", x.show(0, 1), 7);
        same("phase", x.told(0, 0), 2);
        same("by", x.told(0, 5), 0);
        same("until", x.told(0, 6), 7);
        x.height(1);
        same("until stays", x.show(1, 2), 7);
        same("by", x.told(0, 5), 1);
        same("the same rank", x.show(1, 0), -4);
        same("a lesser rank", x.show(0, 0), -4);
        x.height(1);
        same("show", x.show(2, 2), 7);
        same("newest", x.told(0, 4), 2);
        x.height(1);
        same("ended", x.told(0, 0), 3);
        same("by", x.told(0, 5), 2);
        same("until", x.told(0, 6), 0);
        same("newest", x.told(0, 4), -1);
    }

    private static void showRefusals() {
        DUE.part("promise 11, refusals");
        StateChannels x = three();
        same("no state", x.show(2, 0), -1);
        same("no state", x.show(-1, 0), -1);
        same("no member", x.show(0, 3), -1);
        same("no party", x.show(0, 6), -1);
        same("nobody signed it", x.show(1, 0), -4);
        x.sign(1, 0);
        x.sign(1, 1);
        same("not all signed it", x.show(1, 0), -4);
        same("still open", x.told(0, 0), 1);
        x.show(0, 0);
        x.height(3);
        same("ended", x.show(0, 0), -2);
        same("-2 before -4", x.show(1, 0), -2);
        same("-1 before -2", x.show(0, 3), -1);
    }

    private static void agree() {
        DUE.part("promise 12");
        StateChannels x = three();
        x.change(1, 0, 1, 40);
        x.lock(1, 1, 2, 30, 0, 3);
        x.lock(1, 1, 2, 20, 0, 4);
        x.game(1, 2, 0, 10, 5);
        signAll(x, 1);
        x.height(3);
        same("agree", x.agree(1, 2), 1);
        same("agree", x.agree(1, 0), 2);
        same("who", x.of(1, 3), 5);
        same("open", x.told(0, 0), 1);
        same("agree", x.agree(1, 1), 3);
        same("ended", x.told(0, 0), 3);
        same("by", x.told(0, 5), 1);
        same("agreed stays", x.of(1, 3), 7);
        same("account 0", x.account(0), 9950);
        same("account 1, an expired lock came back", x.account(1), 9900 + 90 + 30);
        same("account 2", x.account(2), 9990);
        same("held", x.told(0, 7), 2);
        same("sum", x.told(0, 1), 40);
        same("turn", x.told(0, 8), 2);
        same("deadline", x.told(0, 10), 6);
    }

    private static void agreeRefusals() {
        DUE.part("promise 12, refusals");
        StateChannels x = three();
        same("no state", x.agree(2, 0), -1);
        same("no member", x.agree(0, 5), -1);
        same("no party", x.agree(0, -1), -1);
        same("not the newest", x.agree(1, 0), -4);
        x.agree(0, 0);
        same("already", x.agree(0, 0), -4);
        signAll(x, 1);
        same("not the newest any more", x.agree(0, 1), -4);
        same("it tells who agreed", x.of(0, 3), 1);
        x.show(0, 0);
        same("closing", x.agree(1, 0), -2);
        same("-2 before -4", x.agree(0, 0), -2);
        same("-1 before -2", x.agree(1, 3), -1);
        x.height(3);
        same("ended", x.agree(1, 0), -2);
    }

    private static void withdrawal() {
        DUE.part("promise 12, outs");
        StateChannels x = three();
        x.out(1, 0, 100);
        x.out(1, 2, 1);
        signAll(x, 1);
        x.state(0);
        x.state(0);
        signAll(x, 2);
        same("newest", x.told(0, 4), 2);
        x.state(0);
        x.out(4, 0, 60);
        x.out(4, 1, 1);
        signAll(x, 4);
        x.agree(4, 0);
        x.agree(4, 1);
        same("the last one", x.agree(4, 2), 3);
        same("open", x.told(0, 0), 1);
        same("sum", x.told(0, 1), 239);
        same("share", x.share(4, 0, 0), 40);
        same("out", x.share(4, 0, 1), 0);
        same("share", x.share(4, 1, 0), 99);
        same("share", x.share(4, 2, 0), 100);
        same("account", x.account(0), 9960);
        same("account", x.account(1), 9901);
        same("nobody agreed", x.of(4, 3), 0);
        same("all signed", x.of(4, 2), 7);
        same("it counts", x.of(4, 4), 1);
        same("newest", x.told(0, 4), 4);
        same("others do not", x.of(2, 4), 0);
        same("whole of another", x.of(2, 5), 300);
        x.state(0);
        same("as the newest", x.of(5, 5), 239);
        signAll(x, 3);
        same("signed too late", x.of(3, 4), 0);
        same("the first one", x.show(0, 0), -4);
        same("all that there is", x.count(6), 60000);

        StateChannels y = three();
        y.out(1, 1, 1);
        signAll(y, 1);
        for (int p = 0; p < 3; p++) {
            same("agree", y.agree(1, p), p + 1);
        }
        same("an out of 1 is above 0", y.told(0, 0), 1);
        same("sum", y.told(0, 1), 299);
        for (int p = 0; p < 3; p++) {
            same("agree anew", y.agree(1, p), p + 1);
        }
        same("no out is left", y.told(0, 0), 3);
        same("account", y.account(1), 10000);
    }

    private static void secret() {
        DUE.part("promise 13");
        StateChannels x = new StateChannels();
        same("no party", x.secret(6), -1);
        same("no party", x.secret(-1), -1);
        for (int i = 0; i < 16; i++) {
            same("secret", x.secret(i % 6), i);
            same("knows", x.knows(i), 1 << i % 6);
        }
        same("a 17th", x.secret(0), -4);
        same("-1 before -4", x.secret(6), -1);
        same("secrets", x.count(2), 16);
        same("knows", x.knows(16), -1);
    }

    private static void tell() {
        DUE.part("promise 14");
        StateChannels x = new StateChannels();
        x.secret(3);
        same("no secret", x.tell(1, 3, 4), -1);
        same("no secret", x.tell(-1, 3, 4), -1);
        same("no party", x.tell(0, 6, 4), -1);
        same("no party", x.tell(0, 3, 6), -1);
        same("it does not know it", x.tell(0, 4, 3), -4);
        same("it does not know it", x.tell(0, 4, 4), -4);
        same("tell", x.tell(0, 3, 4), 1);
        same("again", x.tell(0, 3, 4), 0);
        same("oneself", x.tell(0, 3, 3), 0);
        same("on", x.tell(0, 4, 0), 1);
        same("knows", x.knows(0), 0b11001);
    }

    private static void ending() {
        DUE.part("to end");
        StateChannels x = three();
        x.lock(1, 0, 1, 10, 0, 3);
        x.lock(1, 0, 1, 20, 0, 4);
        x.game(1, 1, 2, 5, 9);
        x.out(1, 2, 50);
        signAll(x, 1);
        x.show(1, 0);
        x.height(2);
        same("before", x.told(0, 0), 2);
        same("before", x.told(0, 7), 0);
        x.height(1);
        same("ended", x.told(0, 0), 3);
        same("an expiry not above height goes back", x.account(0), 9900 + 70 + 10);
        same("a share, out or not", x.account(2), 9995);
        same("held", x.told(0, 7), 2);
        same("sum", x.told(0, 1), 30);
        same("deadline", x.told(0, 10), 6);
        same("stake", x.told(0, 11), 10);
        same("what it tells stays: share", x.share(1, 2, 0), 95);
        same("what it tells stays: out", x.share(1, 2, 1), 50);
        same("what it tells stays: lock", x.locked(1, 0, 2), 10);
        same("what it tells stays: whole", x.of(1, 5), 300);
        same("it does not count", x.of(1, 4), 0);
        x.step(0, 1, 1);
        same("what it tells stays: heap", x.of(1, 9), 9);
        same("what it tells stays: turn", x.of(1, 6), 1);
        x.height(1);
        same("nothing held", x.told(0, 7), 0);
        same("what it tells stays: lock", x.locked(1, 1, 2), 20);
    }

    private static StateChannels heldLocks() {
        StateChannels x = three();
        x.lock(1, 1, 0, 10, 0, 20);
        x.lock(1, 0, 2, 20, 0, 30);
        signAll(x, 1);
        x.show(1, 0);
        x.height(3);
        return x;
    }

    private static void claim() {
        DUE.part("promise 15");
        StateChannels x = heldLocks();
        same("held", x.told(0, 7), 3);
        same("no game, no deadline", x.told(0, 10), 0);
        same("account", x.account(0), 9980);
        same("claim", x.claim(0, 0, 0), 10);
        same("account", x.account(0), 9990);
        same("knows", x.knows(0), 63);
        same("held", x.told(0, 7), 2);
        same("sum", x.told(0, 1), 20);
        same("again", x.claim(0, 0, 0), -4);
        same("now that all know it", x.claim(0, 1, 2), 20);
        same("sum", x.told(0, 1), 0);
        same("account", x.account(2), 10020);
        same("all that there is", x.count(6), 60000);
    }

    private static void claimRefusals() {
        DUE.part("promise 15, refusals");
        StateChannels x = heldLocks();
        x.channel(24, 0, 2);
        same("no channel", x.claim(2, 0, 0), -1);
        same("no channel", x.claim(-1, 0, 0), -1);
        same("no place", x.claim(0, 3, 0), -1);
        same("no place", x.claim(0, -1, 0), -1);
        same("no party", x.claim(0, 0, 6), -1);
        same("no party before -2", x.claim(1, 0, 6), -1);
        same("not ended", x.claim(1, 0, 5), -2);
        same("none there", x.claim(0, 2, 0), -4);
        same("not to it", x.claim(0, 0, 1), -4);
        same("no member", x.claim(0, 0, 5), -4);
        same("it knows it, but it is not to it", x.claim(0, 1, 0), -4);
        same("it does not know it", x.claim(0, 1, 2), -4);
        same("knows", x.knows(0), 1);
        same("held", x.told(0, 7), 3);
    }

    /** A held game of heap 6, the turn of 1 against 2, at height 3. */
    private static StateChannels heldGame(int heap) {
        StateChannels x = three();
        x.game(1, 1, 2, 50, heap);
        signAll(x, 1);
        x.show(1, 0);
        x.height(3);
        return x;
    }

    private static void step() {
        DUE.part("promise 16");
        StateChannels x = heldGame(6);
        same("turn", x.told(0, 8), 1);
        same("heap", x.told(0, 9), 6);
        same("deadline", x.told(0, 10), 6);
        same("stake", x.told(0, 11), 100);
        x.height(1);
        same("step", x.step(0, 1, 3), 3);
        same("turn", x.told(0, 8), 2);
        same("deadline", x.told(0, 10), 7);
        same("step", x.step(0, 2, 1), 2);
        same("step", x.step(0, 1, 2), 0);
        same("turn", x.told(0, 8), -1);
        same("heap", x.told(0, 9), 0);
        same("deadline", x.told(0, 10), 0);
        same("stake", x.told(0, 11), 0);
        same("sum", x.told(0, 1), 0);
        same("account", x.account(1), 10050);
        same("account", x.account(2), 9950);
    }

    private static void stepRefusals() {
        DUE.part("promise 16, refusals");
        StateChannels x = heldGame(2);
        x.channel(24, 0, 2);
        same("no channel", x.step(2, 1, 1), -1);
        same("no party", x.step(0, 6, 1), -1);
        same("no party before -2", x.step(1, -1, 1), -1);
        same("none is held", x.step(1, 3, 0), -2);
        same("take 0", x.step(0, 1, 0), -3);
        same("take 4", x.step(0, 1, 4), -3);
        same("-3 before -4", x.step(0, 2, 4), -3);
        same("not its turn", x.step(0, 2, 1), -4);
        same("no member", x.step(0, 5, 1), -4);
        same("a heap of less", x.step(0, 1, 3), -4);
        same("heap", x.told(0, 9), 2);
        same("all of it", x.step(0, 1, 2), 0);
        same("over", x.step(0, 1, 4), -2);
    }

    private static void watch() {
        DUE.part("promise 17");
        StateChannels x = new StateChannels();
        same("no party", x.watch(6, true), -1);
        same("no party", x.watch(-1, false), -1);
        same("watch", x.watch(5, true), 0);
        same("again", x.watch(5, true), 1);
        same("watch", x.watch(0, true), 0);
        same("who", x.count(5), 33);
        same("no more", x.watch(5, false), 1);
        same("again", x.watch(5, false), 0);
        same("who", x.count(5), 1);
    }

    private static void height() {
        DUE.part("promise 18");
        StateChannels x = new StateChannels();
        same("n 0", x.height(0), -3);
        same("n -1", x.height(-1), -3);
        same("n 101", x.height(101), -3);
        same("height", x.height(1), 1);
        same("height", x.height(100), 101);
        same("told", x.count(3), 101);
        x.channel(3, 10, 2);
        x.channel(3, 20, 3);
        x.show(0, 0);
        same("until", x.show(1, 0), 104);
        x.height(2);
        same("ended", x.told(0, 0), 3);
        same("closing", x.told(1, 0), 2);
        same("account", x.account(0), 9980);
        same("many at once", x.height(50), 153);
        same("ended", x.told(1, 0), 3);
        same("account", x.account(0), 10000);
    }

    private static void expiredLocks() {
        DUE.part("promise 18, held locks");
        StateChannels x = heldLocks();
        x.height(16);
        same("held", x.told(0, 7), 3);
        x.height(1);
        same("height", x.count(3), 20);
        same("one went back", x.told(0, 7), 2);
        same("account", x.account(1), 10000);
        same("sum", x.told(0, 1), 20);
        same("too late", x.claim(0, 0, 0), -4);
        x.height(10);
        same("none held", x.told(0, 7), 0);
        same("account", x.account(0), 10000);
    }

    private static void deadline() {
        DUE.part("promise 18, deadline");
        StateChannels x = heldGame(6);
        x.height(2);
        x.step(0, 1, 1);
        x.height(2);
        same("held", x.told(0, 8), 2);
        x.height(1);
        same("over", x.told(0, 8), -1);
        same("the one whose turn it is not", x.account(1), 10050);
        same("sum", x.told(0, 1), 0);
    }

    private static void watcherOfOpen() {
        DUE.part("watchers, open");
        StateChannels x = three();
        x.lock(1, 1, 0, 10, 0, 20);
        x.lock(1, 0, 2, 10, 0, 12);
        x.lock(1, 0, 2, 10, 0, 25);
        signAll(x, 1);
        x.watch(0, true);
        x.watch(2, true);
        x.height(15);
        same("a lock of a secret that 2 does not know", x.told(0, 0), 1);
        x.height(1);
        same("shown when the expiry is height, delay and 1", x.told(0, 0), 2);
        same("by", x.told(0, 5), 1);
        same("until", x.told(0, 6), 19);
        x.height(3);
        same("claimed for 0, then for 2", x.told(0, 7), 0);
        same("account 0: its share, an expired lock, a claimed one", x.account(0), 9900 + 80 + 10 + 10);
        same("the secret is known", x.knows(0), 63);
        same("account 2", x.account(2), 10010);

        StateChannels y = three();
        y.lock(1, 1, 0, 10, 0, 5);
        signAll(y, 1);
        y.height(2);
        y.watch(0, true);
        y.height(30);
        same("the height has gone by", y.told(0, 0), 1);

        StateChannels z = three();
        z.lock(1, 1, 0, 10, 0, 5);
        z.watch(0, true);
        z.height(30);
        same("only the newest is looked at", z.told(0, 0), 1);
    }

    private static void watcherOfClosing() {
        DUE.part("watchers, closing");
        StateChannels x = three();
        signAll(x, 1);
        x.watch(3, true);
        x.show(0, 0);
        x.height(1);
        same("3 is no member", x.told(0, 5), 0);
        x.watch(2, true);
        x.height(1);
        same("the newest is shown", x.told(0, 5), 1);
        same("until stays", x.told(0, 6), 3);
        x.state(0);
        signAll(x, 2);
        x.height(1);
        same("ended before the watchers come", x.told(0, 0), 3);
        same("by", x.told(0, 5), 1);
    }

    private static void watcherClaims() {
        DUE.part("watchers, claims");
        StateChannels x = three();
        x.secret(2);
        x.lock(1, 1, 2, 10, 0, 20);
        x.lock(1, 1, 2, 20, 1, 20);
        x.lock(1, 0, 2, 30, 1, 3);
        signAll(x, 1);
        x.show(1, 0);
        x.watch(2, true);
        x.height(3);
        same("those of which it knows the secret", x.told(0, 7), 1);
        same("account", x.account(2), 9900 + 100 + 20);
        same("an expired one went back", x.account(0), 10000);
        same("knows 0", x.knows(0), 1);
        same("knows 1", x.knows(1), 63);
        x.tell(0, 0, 2);
        x.height(1);
        same("when it knows it", x.told(0, 7), 0);
        same("account", x.account(2), 10030);
    }

    private static void watcherOrder() {
        DUE.part("watchers, by numbers");
        StateChannels x = three();
        x.secret(1);
        x.lock(1, 1, 0, 10, 1, 20);
        x.lock(1, 0, 1, 20, 1, 20);
        x.lock(1, 0, 2, 30, 1, 20);
        signAll(x, 1);
        x.show(1, 0);
        x.watch(0, true);
        x.watch(1, true);
        x.watch(2, true);
        x.height(3);
        same("0 learns it too late, 2 does not", x.told(0, 7), 1);
        x.height(1);
        same("one height later", x.told(0, 7), 0);

        StateChannels y = new StateChannels();
        y.channel(3, 10, 2);
        y.channel(3, 10, 2);
        y.secret(1);
        y.secret(0);
        y.state(0);
        y.state(1);
        y.lock(2, 0, 1, 1, 1, 20);
        y.lock(2, 1, 0, 1, 1, 20);
        y.lock(3, 0, 1, 1, 0, 20);
        y.lock(3, 1, 0, 1, 0, 20);
        signAll(y, 2);
        signAll(y, 3);
        y.show(2, 0);
        y.show(3, 0);
        y.watch(0, true);
        y.watch(1, true);
        y.height(2);
        same("channel 0 is empty", y.told(0, 7), 0);
        same("in channel 1 the one to 0 stays", y.told(1, 7), 2);
    }

    private static void watcherPlays() {
        DUE.part("watchers, games");
        StateChannels x = heldGame(8);
        x.watch(1, true);
        x.height(1);
        same("by 1 when none are left over", x.told(0, 9), 7);
        same("turn", x.told(0, 8), 2);
        same("deadline", x.told(0, 10), 7);
        x.height(1);
        same("it is not its turn", x.told(0, 9), 7);
        x.step(0, 2, 1);
        x.height(1);
        same("what is left over by fours", x.told(0, 9), 4);
        same("deadline", x.told(0, 10), 9);
        x.watch(2, true);
        x.height(1);
        same("1 came before it was its turn", x.told(0, 9), 3);
        x.height(1);
        same("the last ones", x.told(0, 8), -1);
        same("account", x.account(1), 10050);

        StateChannels y = heldGame(7);
        y.watch(1, true);
        y.watch(2, true);
        y.height(1);
        same("two moves in one height", y.told(0, 9), 3);
        same("turn", y.told(0, 8), 1);
        y.watch(1, false);
        y.height(3);
        same("the deadline comes before the watchers", y.account(2), 10050);
    }
}
