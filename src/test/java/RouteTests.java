/** Promises 19 to 27: the route, and what is told. */
public final class RouteTests {
    private static final Due DUE = new Due("RouteTests");

    private static void same(String call, int got, int want) {
        DUE.same(call, got, want);
    }

    public static void main(String[] args) {
        hop();
        pay();
        payRefusals();
        payNeedsStates();
        payNeedsSecret();
        account();
        told();
        of();
        share();
        locked();
        knows();
        count();
        DUE.end();
    }

    /** Channels of 0 and 1, 1 and 2, 2 and 3, 3 and 4, 4 and 5, with 100 from each, delays 2, 3, 4, 5, 6. */
    private static StateChannels chain() {
        StateChannels x = new StateChannels();
        for (int c = 0; c < 5; c++) {
            x.channel(3 << c, 100, 2 + c);
        }
        return x;
    }

    private static void hop() {
        DUE.part("promise 19");
        StateChannels x = chain();
        x.channel(7, 1, 2);
        same("no channel", x.hop(6, 0, 1), -1);
        same("no member", x.hop(0, 0, 2), -1);
        same("no member", x.hop(0, 2, 0), -1);
        same("no party", x.hop(0, 0, 6), -1);
        same("the same one", x.hop(0, 0, 0), -4);
        same("hop", x.hop(0, 0, 1), 1);
        same("not the second one of the hop before", x.hop(1, 2, 1), -4);
        same("the first one's channel again", x.hop(0, 1, 0), -4);
        same("hop", x.hop(1, 1, 2), 2);
        same("in the route", x.hop(1, 2, 1), -4);
        same("in the route", x.hop(0, 1, 0), -4);
        same("hop", x.hop(2, 2, 3), 3);
        same("not the second one of the hop before", x.hop(5, 2, 0), -4);
        x.show(3, 3);
        same("closing", x.hop(3, 3, 4), -2);
        same("-2 before -4", x.hop(3, 3, 3), -2);
        same("-1 before -2", x.hop(3, 3, 5), -1);
        x.channel(24, 0, 2);
        same("hop", x.hop(6, 3, 4), 4);
        same("four hops", x.hop(4, 4, 5), -4);
        same("hops", x.count(4), 4);

        StateChannels y = new StateChannels();
        y.channel(3, 10, 2);
        y.channel(7, 10, 2);
        y.hop(0, 0, 1);
        same("back to the first party", y.hop(1, 1, 0), 2);
        y.agree(0, 0);
        y.agree(0, 1);
        same("ended", y.hop(0, 0, 1), -2);
    }

    private static void pay() {
        DUE.part("promise 20");
        StateChannels x = chain();
        x.secret(5);
        x.state(1);
        x.lock(5, 2, 1, 1, 0, 9);
        x.change(5, 1, 2, 60);
        x.sign(5, 1);
        x.sign(5, 2);
        x.hop(0, 0, 1);
        x.hop(1, 1, 2);
        x.hop(2, 2, 3);
        same("pay", x.pay(40, 50), 1);
        same("route", x.count(4), 0);
        same("knows", x.knows(1), 8);
        same("states", x.count(1), 9);
        same("channel", x.of(6, 0), 0);
        same("channel", x.of(7, 0), 1);
        same("channel", x.of(8, 0), 2);
        same("rank", x.of(7, 1), 2);
        same("signed", x.of(7, 2), 6);
        same("counts", x.of(7, 4), 1);
        same("newest", x.told(1, 4), 7);
        same("whole", x.of(7, 5), 200);
        same("from", x.locked(7, 1, 0), 1);
        same("to", x.locked(7, 1, 1), 2);
        same("how much", x.locked(7, 1, 2), 40);
        same("secret", x.locked(7, 1, 3), 1);
        same("the lock that was there", x.locked(7, 0, 2), 1);
        same("share", x.share(7, 1, 0), 0);
        same("expiry of the last", x.locked(8, 0, 4), 50);
        same("expiry of the one before", x.locked(7, 1, 4), 54);
        same("expiry of the first", x.locked(6, 0, 4), 57);
        x.hop(4, 5, 4);
        same("the greatest expiry", x.pay(100, 1000000), 2);
        same("one hop", x.locked(9, 0, 4), 1000000);
        same("knows", x.knows(2), 16);
        x.hop(3, 4, 3);
        x.hop(2, 3, 2);
        same("beyond the bound of what is told", x.pay(1, 1000000), 3);
        same("its expiry", x.locked(10, 0, 4), 1000006);
    }

    private static void payRefusals() {
        DUE.part("promise 20, refusals");
        StateChannels x = chain();
        same("v before no hop", x.pay(0, 1), -3);
        same("no hop", x.pay(1, 1), -4);
        x.hop(0, 0, 1);
        same("v 0", x.pay(0, 1), -3);
        same("route", x.count(4), 0);
        x.hop(0, 0, 1);
        same("v 60001", x.pay(60001, 1), -3);
        x.hop(0, 0, 1);
        same("expiry 0", x.pay(1, 0), -3);
        x.hop(0, 0, 1);
        same("expiry 1000001", x.pay(1, 1000001), -3);
        same("route", x.count(4), 0);
        x.hop(0, 0, 1);
        x.hop(1, 1, 2);
        same("a share is less", x.pay(101, 1), -4);
        same("route", x.count(4), 0);
        same("no secret", x.count(2), 0);
        same("no state", x.count(1), 5);
        x.hop(0, 0, 1);
        x.hop(1, 1, 2);
        x.show(1, 1);
        same("not open any more", x.pay(1, 1), -4);
        same("no state", x.count(1), 5);
        x.hop(0, 0, 1);
        same("all of a share", x.pay(100, 9), 0);
        x.hop(0, 0, 1);
        same("nothing left", x.pay(1, 9), -4);
        for (int i = 0; i < 2; i++) {
            x.hop(0, 1, 0);
            same("pay", x.pay(1, 9), 1 + i);
        }
        x.hop(0, 1, 0);
        same("no place", x.pay(1, 9), -4);
    }

    private static void payNeedsStates() {
        DUE.part("promise 20, states");
        StateChannels x = chain();
        for (int s = 5; s < 63; s++) {
            x.state(4);
        }
        x.hop(0, 0, 1);
        x.hop(1, 1, 2);
        same("more than 64", x.pay(1, 9), -4);
        x.hop(0, 0, 1);
        same("the 64th", x.pay(1, 9), 0);
        same("states", x.count(1), 64);
        same("newest", x.told(0, 4), 63);
        x.hop(1, 1, 2);
        same("more than 64", x.pay(1, 9), -4);
        same("secrets", x.count(2), 1);
    }

    private static void payNeedsSecret() {
        DUE.part("promise 20, secrets");
        StateChannels x = chain();
        for (int i = 0; i < 15; i++) {
            x.secret(0);
        }
        x.hop(0, 0, 1);
        same("the 16th", x.pay(1, 9), 15);
        x.hop(0, 0, 1);
        same("no more", x.pay(1, 9), -4);
        same("newest", x.told(0, 4), 5);
    }

    private static void account() {
        DUE.part("promise 21");
        StateChannels x = chain();
        same("account", x.account(0), 9900);
        same("account", x.account(1), 9800);
        same("no party", x.account(-1), -1);
        same("no party", x.account(6), -1);
        same("no party", x.account(Integer.MAX_VALUE), -1);
    }

    private static void told() {
        DUE.part("promise 22");
        StateChannels x = chain();
        int[] due = {1, 200, 3, 6, 1, -1, 0, 0, -1, 0, 0, 0};
        for (int what = 0; what < due.length; what++) {
            same("told(1, " + what + ")", x.told(1, what), due[what]);
        }
        same("what", x.told(1, 12), -1);
        same("what", x.told(1, -1), -1);
        same("channel", x.told(5, 0), -1);
        same("channel", x.told(-1, 0), -1);
        x.secret(2);
        x.state(1);
        x.lock(5, 1, 2, 5, 0, 99);
        x.lock(5, 1, 2, 6, 0, 1);
        x.lock(5, 1, 2, 7, 0, 99);
        x.game(5, 2, 1, 8, 9);
        x.sign(5, 1);
        x.sign(5, 2);
        x.show(5, 1);
        int[] closing = {2, 200, 3, 6, 5, 5, 3, 0, -1, 0, 0, 0};
        for (int what = 0; what < closing.length; what++) {
            same("closing, told(1, " + what + ")", x.told(1, what), closing[what]);
        }
        x.height(3);
        int[] ended = {3, 28, 3, 6, -1, 5, 0, 5, 2, 9, 6, 16};
        for (int what = 0; what < ended.length; what++) {
            same("ended, told(1, " + what + ")", x.told(1, what), ended[what]);
        }
    }

    private static void of() {
        DUE.part("promise 23");
        StateChannels x = chain();
        x.state(2);
        x.game(5, 3, 2, 4, 11);
        int[] due = {2, 1, 0, 0, 0, 200, 3, 2, 8, 11};
        for (int what = 0; what < due.length; what++) {
            same("of(5, " + what + ")", x.of(5, what), due[what]);
        }
        x.agree(2, 3);
        int[] first = {2, 0, 12, 8, 1, 200, -1, -1, 0, 0};
        for (int what = 0; what < first.length; what++) {
            same("of(2, " + what + ")", x.of(2, what), first[what]);
        }
        same("what", x.of(5, 10), -1);
        same("what", x.of(5, -1), -1);
        same("state", x.of(6, 0), -1);
        same("state", x.of(-1, 0), -1);
    }

    private static void share() {
        DUE.part("promise 24");
        StateChannels x = chain();
        x.state(3);
        x.out(5, 4, 9);
        same("share", x.share(5, 4, 0), 100);
        same("out", x.share(5, 4, 1), 9);
        same("what", x.share(5, 4, 2), -1);
        same("what", x.share(5, 4, -1), -1);
        same("no member", x.share(5, 2, 0), -1);
        same("no party", x.share(5, 6, 0), -1);
        same("no party", x.share(5, -1, 0), -1);
        same("no state", x.share(6, 4, 0), -1);
    }

    private static void locked() {
        DUE.part("promise 25");
        StateChannels x = chain();
        x.secret(0);
        x.secret(0);
        x.state(4);
        x.lock(5, 5, 4, 17, 1, 33);
        int[] due = {5, 4, 17, 1, 33};
        for (int what = 0; what < due.length; what++) {
            same("locked(5, 0, " + what + ")", x.locked(5, 0, what), due[what]);
        }
        same("what", x.locked(5, 0, 5), -1);
        same("what", x.locked(5, 0, -1), -1);
        same("none there", x.locked(5, 1, 0), -1);
        same("place", x.locked(5, 3, 0), -1);
        same("place", x.locked(5, -1, 0), -1);
        same("state", x.locked(6, 0, 0), -1);
    }

    private static void knows() {
        DUE.part("promise 26");
        StateChannels x = new StateChannels();
        x.secret(4);
        x.tell(0, 4, 1);
        same("knows", x.knows(0), 18);
        same("no secret", x.knows(1), -1);
        same("no secret", x.knows(-1), -1);
        same("no secret", x.knows(16), -1);
    }

    private static void count() {
        DUE.part("promise 27");
        StateChannels x = chain();
        x.secret(0);
        x.height(7);
        x.hop(0, 0, 1);
        x.watch(3, true);
        x.state(0);
        int[] due = {5, 6, 1, 7, 1, 8, 60000};
        for (int what = 0; what < due.length; what++) {
            same("count(" + what + ")", x.count(what), due[what]);
        }
        same("what", x.count(7), -1);
        same("what", x.count(-1), -1);
    }
}
