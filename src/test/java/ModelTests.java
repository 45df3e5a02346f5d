import java.util.Arrays;
import java.util.Random;

/** Long runs of calls, drawn from fixed seeds, in which the program and the Model have to answer the same. */
public final class ModelTests {
    private static final int RUNS = 20000;
    /** The document tells nothing of what comes behind them, so questions are among them. */
    private static final int CALLS = 512;
    /** As many calls at most does one step of a run make. */
    private static final int LONGEST_STEP = 16;
    private static final int[] EDGES = {Integer.MIN_VALUE, -2, -1, 0, 1, 2, 3, 4, 6, 7, 8, 16, 20, 21, 63, 64, 100, 101,
        10000, 10001, 60000, 60001, 1000000, 1000001, Integer.MAX_VALUE};
    private static final String[] NAMES = {"channel", "state", "change", "lock", "unlock", "game", "move", "out",
        "sign", "show", "agree", "secret", "tell", "claim", "step", "watch", "height", "hop", "pay"};
    /** Which of the answers -1 .. -4 each of these has, bit by bit: 1 for -1 to 8 for -4. */
    private static final int[] REFUSALS = {13, 11, 15, 15, 3, 15, 15, 15, 11, 11, 11, 9, 9, 11, 15, 1, 4, 11, 12};

    private final Due due;
    private final Random random;
    private final StateChannels x = new StateChannels();
    private final Model y = new Model();
    private final long[][] answers;
    /** How often arguments are drawn without any sense, in a thousand. */
    private final int wild;
    private final int kind;
    private int calls;

    private ModelTests(Due due, int seed, long[][] answers) {
        this.due = due;
        this.random = new Random(seed);
        this.answers = answers;
        this.wild = seed % 3 == 0 ? 200 : 20;
        this.kind = seed % 4;
    }

    public static void main(String[] args) {
        Due due = new Due("ModelTests");
        long[][] answers = new long[NAMES.length][6];
        for (int seed = 0; seed < RUNS; seed++) {
            due.part("seed " + seed);
            new ModelTests(due, seed, answers).run();
        }
        due.part("what was drawn");
        for (int i = 0; i < NAMES.length; i++) {
            due.holds(NAMES[i] + " is taken", answers[i][0] > 0);
            for (int r = 1; r <= 4; r++) {
                due.holds(NAMES[i] + " and refusal -" + r, answers[i][r] > 0 == ((REFUSALS[i] >> r - 1 & 1) == 1));
            }
        }
        due.end();
    }

    private void run() {
        while (calls + LONGEST_STEP <= CALLS) {
            step();
        }
        askSome(CALLS - calls);
    }

    private void step() {
        int draw = random.nextInt(100);
        if (draw < 8) {
            signAllOfLast();
        } else if (draw < 10) {
            agreeAll();
        } else if (draw < 12) {
            payFar();
        } else if (draw < 22) {
            askSome(4);
        } else {
            call(drawCall(), random.nextInt(1000) < wild);
        }
    }

    private void same(String call, int got, int want) {
        calls++;
        due.same(call, got, want);
    }

    /** Channels come early; some runs make many states, in some a channel is seldom shown. */
    private int drawCall() {
        if (y.channels.size() < 2 || random.nextInt(60) == 0) {
            return 0;
        }
        int call = 1 + random.nextInt(NAMES.length - 1);
        if (kind == 2 && random.nextInt(5) == 0) {
            return 1;
        }
        if (call == 9 && kind < 2 && random.nextInt(3) > 0) {
            return 16;
        }
        return call;
    }

    private int upTo(int n) {
        return n <= 0 ? 0 : random.nextInt(n);
    }

    private int edge() {
        return random.nextInt(3) == 0 ? EDGES[random.nextInt(EDGES.length)] : random.nextInt(12) - 2;
    }

    private int party() {
        return random.nextInt(6);
    }

    private int member(int set) {
        int p = party();
        for (int i = 0; i < 6 && (set >> p & 1) == 0; i++) {
            p = (p + 1) % 6;
        }
        return p;
    }

    private int channelNumber() {
        return upTo(y.channels.size());
    }

    private int stateNumber() {
        int n = y.states.size();
        int back = random.nextInt(3) > 0 ? upTo(Math.min(n, 4)) : upTo(n);
        return Math.max(0, n - 1 - back);
    }

    private int membersOf(int s) {
        return s < y.states.size() ? y.channels.get(y.states.get(s).channel).members : 63;
    }

    private int amount() {
        int draw = random.nextInt(10);
        return draw == 0 ? edge() : draw < 7 ? 1 + random.nextInt(40) : 1 + random.nextInt(400);
    }

    private int expiry() {
        return y.height + random.nextInt(40) - 2;
    }

    private void call(int which, boolean wildly) {
        int[] a = wildly ? new int[] {edge(), edge(), edge(), edge(), edge(), edge()} : arguments(which);
        boolean on = random.nextInt(3) > 0;
        int got = ask(which, a, on);
        int want = askModel(which, a, on);
        answers[which][want < 0 && want >= -4 ? -want : 0]++;
        same(got == want ? "" : NAMES[which] + Arrays.toString(a) + on, got, want);
    }

    private int[] arguments(int which) {
        int c = channelNumber();
        int s = stateNumber();
        int set = membersOf(s);
        int ofChannel = c < y.channels.size() ? y.channels.get(c).members : 63;
        switch (which) {
            case 0: return new int[] {random.nextInt(64), random.nextInt(4) * 150, 2 + random.nextInt(6)};
            case 1: return new int[] {c};
            case 2: return new int[] {s, member(set), member(set), amount()};
            case 3: return new int[] {s, member(set), member(set), amount(), upTo(y.secrets.size()), expiry()};
            case 4: return new int[] {s, random.nextInt(3)};
            case 5: return new int[] {s, member(set), member(set), amount(), 1 + random.nextInt(20)};
            case 6: return new int[] {s, 1 + random.nextInt(3)};
            case 7: return new int[] {s, member(set), amount() - 1};
            case 8: return new int[] {s, member(set)};
            case 9: return new int[] {random.nextBoolean() ? s : upTo(y.states.size()), member(set)};
            case 10: return new int[] {s, member(set)};
            case 11: return new int[] {party()};
            case 12: return new int[] {upTo(y.secrets.size()), party(), party()};
            case 13: return new int[] {c, random.nextInt(3), random.nextBoolean() ? member(ofChannel) : party()};
            case 14: return new int[] {c, member(ofChannel), random.nextInt(5)};
            case 15: return new int[] {party()};
            case 16: return new int[] {kind == 3 && random.nextInt(9) == 0 ? 1 + random.nextInt(100) : 1 + random.nextInt(3)};
            case 17: return new int[] {c, member(ofChannel), member(ofChannel)};
            default: return new int[] {amount(), expiry() + 5};
        }
    }

    private int ask(int which, int[] a, boolean on) {
        switch (which) {
            case 0: return x.channel(a[0], a[1], a[2]);
            case 1: return x.state(a[0]);
            case 2: return x.change(a[0], a[1], a[2], a[3]);
            case 3: return x.lock(a[0], a[1], a[2], a[3], a[4], a[5]);
            case 4: return x.unlock(a[0], a[1], on);
            case 5: return x.game(a[0], a[1], a[2], a[3], a[4]);
            case 6: return x.move(a[0], a[1]);
            case 7: return x.out(a[0], a[1], a[2]);
            case 8: return x.sign(a[0], a[1]);
            case 9: return x.show(a[0], a[1]);
            case 10: return x.agree(a[0], a[1]);
            case 11: return x.secret(a[0]);
            case 12: return x.tell(a[0], a[1], a[2]);
            case 13: return x.claim(a[0], a[1], a[2]);
            case 14: return x.step(a[0], a[1], a[2]);
            case 15: return x.watch(a[0], on);
            case 16: return x.height(a[0]);
            case 17: return x.hop(a[0], a[1], a[2]);
            default: return x.pay(a[0], a[1]);
        }
    }

    private int askModel(int which, int[] a, boolean on) {
        switch (which) {
            case 0: return y.channel(a[0], a[1], a[2]);
            case 1: return y.state(a[0]);
            case 2: return y.change(a[0], a[1], a[2], a[3]);
            case 3: return y.lock(a[0], a[1], a[2], a[3], a[4], a[5]);
            case 4: return y.unlock(a[0], a[1], on);
            case 5: return y.game(a[0], a[1], a[2], a[3], a[4]);
            case 6: return y.move(a[0], a[1]);
            case 7: return y.out3(a[0], a[1], a[2]);
            case 8: return y.sign(a[0], a[1]);
            case 9: return y.show(a[0], a[1]);
            case 10: return y.agree(a[0], a[1]);
            case 11: return y.secret(a[0]);
            case 12: return y.tell(a[0], a[1], a[2]);
            case 13: return y.claim(a[0], a[1], a[2]);
            case 14: return y.step(a[0], a[1], a[2]);
            case 15: return y.watch(a[0], on);
            case 16: return y.height(a[0]);
            case 17: return y.hop(a[0], a[1], a[2]);
            default: return y.pay(a[0], a[1]);
        }
    }

    private void signAllOfLast() {
        int s = stateNumber();
        for (int p = 0; p < 6; p++) {
            same("sign(" + s + ", " + p + ")", x.sign(s, p), y.sign(s, p));
        }
    }

    private void agreeAll() {
        int s = y.told(channelNumber(), 4);
        for (int p = 0; p < 6; p++) {
            same("agree(" + s + ", " + p + ")", x.agree(s, p), y.agree(s, p));
        }
    }

    private void payFar() {
        int hops = 1 + random.nextInt(4);
        int from = party();
        for (int i = 0; i < 12 && hops > 0; i++) {
            int c = channelNumber();
            int to = member(c < y.channels.size() ? y.channels.get(c).members : 63);
            int got = x.hop(c, from, to);
            same("hop(" + c + ", " + from + ", " + to + ")", got, y.hop(c, from, to));
            if (got > 0) {
                from = to;
                hops--;
            }
        }
        call(18, false);
    }

    private void askSome(int many) {
        for (int i = 0; i < many; i++) {
            askOne(random.nextInt(12));
        }
    }

    private void askOne(int which) {
        int what = random.nextInt(14) - 1;
        int c = random.nextInt(y.channels.size() + 1);
        int s = random.nextInt(y.states.size() + 1);
        int p = random.nextInt(8) - 1;
        if (which < 3) {
            same("told(" + c + ", " + what + ")", x.told(c, what), y.told(c, what));
        } else if (which < 6) {
            same("of(" + s + ", " + what + ")", x.of(s, what), y.of(s, what));
        } else if (which < 8) {
            same("share(" + s + ", " + p + ", " + what % 3 + ")", x.share(s, p, what % 3), y.share(s, p, what % 3));
        } else if (which == 8) {
            same("locked(" + s + ", " + p + ", " + what % 6 + ")", x.locked(s, p, what % 6), y.locked(s, p, what % 6));
        } else if (which == 9) {
            same("account(" + p + ")", x.account(p), y.account(p));
        } else if (which == 10) {
            same("knows(" + what + ")", x.knows(what), y.knows(what));
        } else {
            same("count(" + what + ")", x.count(what), y.count(what));
        }
    }
}
