/** Channels between parties beside a ledger; shared/DOC.md tells what each call does. */
public final class StateChannels {
    public static final int NONE = -1;

    private static final int NO_SUCH = -1;
    private static final int NOT_NOW = -2;
    private static final int OUT_OF_BOUNDS = -3;
    private static final int UNFIT = -4;

    private static final int PARTIES = 6;
    private static final int ALL_PARTIES = 63;
    private static final int FIRST_ACCOUNT = 10000;
    private static final int MAX_CHANNELS = 8;
    private static final int MAX_STATES = 64;
    private static final int MAX_SECRETS = 16;
    private static final int MAX_HOPS = 4;
    private static final int PLACES = 3;

    private static final int MIN_MEMBERS = 2;
    private static final int MAX_MEMBERS = 4;
    private static final int MAX_DEPOSIT = 10000;
    private static final int MIN_DELAY = 2;
    private static final int MAX_DELAY = 20;
    private static final int MAX_AMOUNT = 60000;
    private static final int MAX_EXPIRY = 1000000;
    private static final int MAX_HALF_STAKE = 10000;
    private static final int MAX_HEAP = 20;
    private static final int MAX_TAKE = 3;
    private static final int MAX_HEIGHTS = 100;

    private static final int OPEN = 1;
    private static final int CLOSING = 2;
    private static final int ENDED = 3;

    private final Sums accounts = new Sums();
    private final Channel[] channels = new Channel[MAX_CHANNELS];
    private final State[] states = new State[MAX_STATES];
    private final int[] knowers = new int[MAX_SECRETS];
    private final Hop[] route = new Hop[MAX_HOPS];
    private int channelCount;
    private int stateCount;
    private int secretCount;
    private int hopCount;
    private int now;
    private int watched;

    public StateChannels() {
        for (int p = 0; p < PARTIES; p++) {
            accounts.put(p, FIRST_ACCOUNT);
        }
    }

    // ---- channels and states

    public int channel(int set, int v, int delay) {
        if (set < 0 || set > ALL_PARTIES) {
            return NO_SUCH;
        }
        if (!isWithin(v, 0, MAX_DEPOSIT) || !isWithin(delay, MIN_DELAY, MAX_DELAY)
                || !isWithin(Integer.bitCount(set), MIN_MEMBERS, MAX_MEMBERS)) {
            return OUT_OF_BOUNDS;
        }
        if (channelCount >= channels.length || !hasRoomForStates(1) || !allHave(set, v)) {
            return UNFIT;
        }
        Channel made = new Channel(channelCount, set, delay);
        channels[channelCount] = made;
        channelCount++;
        State first = newState(made);
        for (int p = 0; p < PARTIES; p++) {
            if (made.hasMember(p)) {
                accounts.add(p, -v);
                made.sum += v;
                first.shares.put(p, v);
            }
        }
        first.signed = set;
        made.newest = first;
        return made.number;
    }

    public int state(int c) {
        Channel channel = channelAt(c);
        if (channel == null) {
            return NO_SUCH;
        }
        if (channel.phase == ENDED) {
            return NOT_NOW;
        }
        if (!hasRoomForStates(1)) {
            return UNFIT;
        }
        return newStateAsNewest(channel).number;
    }

    private boolean hasRoomForStates(int more) {
        return stateCount + more <= states.length;
    }

    private boolean allHave(int set, int v) {
        for (int p = 0; p < PARTIES; p++) {
            if (isIn(set, p) && accounts.get(p) < v) {
                return false;
            }
        }
        return true;
    }

    /** The callers look before that there is room. */
    private State newState(Channel channel) {
        State made = new State(stateCount, channel, channel.statesMade);
        if (stateCount >= 0 && stateCount < states.length) {
            states[stateCount] = made;
            stateCount++;
            channel.statesMade++;
        }
        return made;
    }

    private State newStateAsNewest(Channel channel) {
        State made = newState(channel);
        State newest = channel.newest;
        if (newest != null) {
            made.copyFrom(newest);
        }
        return made;
    }

    // ---- changes of a state that nobody signed

    public int change(int s, int from, int to, int v) {
        State state = stateAt(s);
        if (state == null || !state.hasMember(from) || !state.hasMember(to)) {
            return NO_SUCH;
        }
        if (state.isFixed()) {
            return NOT_NOW;
        }
        if (!isWithin(v, 1, MAX_AMOUNT)) {
            return OUT_OF_BOUNDS;
        }
        if (from == to || state.freeOf(from) < v) {
            return UNFIT;
        }
        state.shares.add(from, -v);
        state.shares.add(to, v);
        return state.shares.get(from);
    }

    public int lock(int s, int from, int to, int v, int secret, int expiry) {
        State state = stateAt(s);
        if (state == null || !state.hasMember(from) || !state.hasMember(to) || !isSecret(secret)) {
            return NO_SUCH;
        }
        if (state.isFixed()) {
            return NOT_NOW;
        }
        if (!isWithin(v, 1, MAX_AMOUNT) || !isWithin(expiry, 1, MAX_EXPIRY)) {
            return OUT_OF_BOUNDS;
        }
        if (from == to || state.freeOf(from) < v || state.emptyPlace() == NONE) {
            return UNFIT;
        }
        return state.addLock(new Lock(from, to, v, secret, expiry));
    }

    public int unlock(int s, int place, boolean opened) {
        State state = stateAt(s);
        if (state == null) {
            return NO_SUCH;
        }
        Lock lock = state.lockAt(place);
        if (lock == null) {
            return NO_SUCH;
        }
        if (state.isFixed()) {
            return NOT_NOW;
        }
        state.removeLock(place);
        state.shares.add(opened ? lock.to : lock.from, lock.amount);
        return lock.amount;
    }

    public int game(int s, int p, int q, int v, int heap) {
        State state = stateAt(s);
        if (state == null || !state.hasMember(p) || !state.hasMember(q)) {
            return NO_SUCH;
        }
        if (state.isFixed()) {
            return NOT_NOW;
        }
        if (!isWithin(v, 1, MAX_HALF_STAKE) || !isWithin(heap, 1, MAX_HEAP)) {
            return OUT_OF_BOUNDS;
        }
        if (p == q || state.game != null || state.freeOf(p) < v || state.freeOf(q) < v) {
            return UNFIT;
        }
        state.shares.add(p, -v);
        state.shares.add(q, -v);
        Game made = new Game(p, q, 2 * v, heap);
        state.game = made;
        return made.stake;
    }

    public int move(int s, int take) {
        State state = stateAt(s);
        if (state == null) {
            return NO_SUCH;
        }
        if (state.isFixed()) {
            return NOT_NOW;
        }
        if (!isWithin(take, 1, MAX_TAKE)) {
            return OUT_OF_BOUNDS;
        }
        Game game = state.game;
        if (game == null || game.heap < take) {
            return UNFIT;
        }
        state.game = game.after(take);
        if (state.game == null) {
            state.shares.add(game.turn, game.stake);
        }
        return game.heap - take;
    }

    public int out(int s, int p, int v) {
        State state = stateAt(s);
        if (state == null || !state.hasMember(p)) {
            return NO_SUCH;
        }
        if (state.isFixed()) {
            return NOT_NOW;
        }
        if (!isWithin(v, 0, MAX_AMOUNT)) {
            return OUT_OF_BOUNDS;
        }
        if (state.shares.get(p) < v) {
            return UNFIT;
        }
        int before = state.outs.get(p);
        state.outs.put(p, v);
        return before;
    }

    // ---- signing, showing, agreeing

    public int sign(int s, int p) {
        State state = stateAt(s);
        if (state == null || !state.hasMember(p)) {
            return NO_SUCH;
        }
        if (state.channel.phase == ENDED) {
            return NOT_NOW;
        }
        if (isIn(state.signed, p)) {
            return UNFIT;
        }
        state.signed |= 1 << p;
        state.channel.noteSigned(state);
        return Integer.bitCount(state.signed);
    }

    public int show(int s, int p) {
        State state = stateAt(s);
        if (state == null || !state.hasMember(p)) {
            return NO_SUCH;
        }
        Channel channel = state.channel;
        if (channel.phase == ENDED) {
            return NOT_NOW;
        }
        if (!state.doesCount() || !channel.wouldTake(state)) {
            return UNFIT;
        }
        makeShown(state);
        return channel.until;
    }

    public int agree(int s, int p) {
        State state = stateAt(s);
        if (state == null || !state.hasMember(p)) {
            return NO_SUCH;
        }
        Channel channel = state.channel;
        if (channel.phase != OPEN) {
            return NOT_NOW;
        }
        if (state != channel.newest || isIn(state.agreed, p)) {
            return UNFIT;
        }
        state.agreed |= 1 << p;
        int agreed = state.agreed;
        if (agreed == channel.members) {
            fulfil(state);
        }
        return Integer.bitCount(agreed);
    }

    private void makeShown(State state) {
        Channel channel = state.channel;
        if (channel.phase == OPEN) {
            channel.phase = CLOSING;
            channel.until = now + channel.delay;
        }
        channel.by = state;
    }

    private void fulfil(State state) {
        if (state.hasOut()) {
            payOuts(state);
        } else {
            endBy(state);
        }
    }

    private void payOuts(State state) {
        for (int p = 0; p < PARTIES; p++) {
            int out = state.outs.get(p);
            state.shares.add(p, -out);
            state.outs.put(p, 0);
            payFrom(state.channel, p, out);
        }
        state.agreed = 0;
    }

    private void endBy(State state) {
        Channel channel = state.channel;
        channel.phase = ENDED;
        channel.by = state;
        channel.newest = null;
        channel.until = 0;
        for (int p = 0; p < PARTIES; p++) {
            payFrom(channel, p, state.shares.get(p));
        }
        for (int place = 0; place < PLACES; place++) {
            holdOrGiveBack(channel, place, state.lockAt(place));
        }
        channel.heldGame = state.game;
        channel.deadline = state.game == null ? 0 : now + channel.delay;
    }

    private void holdOrGiveBack(Channel channel, int place, Lock lock) {
        if (lock == null) {
            return;
        }
        if (lock.expiry > now) {
            channel.heldPlaces |= 1 << place;
        } else {
            payFrom(channel, lock.from, lock.amount);
        }
    }

    /** All that leaves a channel goes through here, so that no sum is lost on the way. */
    private void payFrom(Channel channel, int p, int amount) {
        channel.sum -= amount;
        accounts.add(p, amount);
    }

    // ---- secrets

    public int secret(int p) {
        if (!isParty(p)) {
            return NO_SUCH;
        }
        if (!hasRoomForSecret()) {
            return UNFIT;
        }
        return newSecret(p);
    }

    public int tell(int secret, int from, int to) {
        if (!isSecret(secret) || !isParty(from) || !isParty(to)) {
            return NO_SUCH;
        }
        if (!isKnownBy(secret, from)) {
            return UNFIT;
        }
        if (isKnownBy(secret, to)) {
            return 0;
        }
        knowers[secret] |= 1 << to;
        return 1;
    }

    private boolean hasRoomForSecret() {
        return secretCount < knowers.length;
    }

    /** The callers look before that there is room. */
    private int newSecret(int p) {
        int made = secretCount;
        if (made >= 0 && made < knowers.length) {
            knowers[made] = 1 << p;
            secretCount++;
        }
        return made;
    }

    private boolean isKnownBy(int secret, int p) {
        return isSecret(secret) && isIn(knowers[secret], p);
    }

    // ---- what is held of an ended channel

    public int claim(int c, int place, int p) {
        Channel channel = channelAt(c);
        if (channel == null || !isPlace(place) || !isParty(p)) {
            return NO_SUCH;
        }
        if (channel.phase != ENDED) {
            return NOT_NOW;
        }
        int claimed = claimHeld(channel, place, p);
        return claimed == NONE ? UNFIT : claimed;
    }

    public int step(int c, int p, int take) {
        Channel channel = channelAt(c);
        if (channel == null || !isParty(p)) {
            return NO_SUCH;
        }
        Game game = channel.heldGame;
        if (game == null) {
            return NOT_NOW;
        }
        if (!isWithin(take, 1, MAX_TAKE)) {
            return OUT_OF_BOUNDS;
        }
        if (game.turn != p || game.heap < take) {
            return UNFIT;
        }
        moveHeld(channel, game, take);
        return game.heap - take;
    }

    private boolean canClaim(Lock lock, int p) {
        return lock.to == p && isKnownBy(lock.secret, p);
    }

    /** How much p got; NONE when it may not claim. */
    private int claimHeld(Channel channel, int place, int p) {
        Lock lock = channel.heldLockAt(place);
        if (lock == null || !canClaim(lock, p)) {
            return NONE;
        }
        payHeldLock(channel, place, p, lock.amount);
        if (isSecret(lock.secret)) {
            knowers[lock.secret] = ALL_PARTIES;
        }
        return lock.amount;
    }

    private void payHeldLock(Channel channel, int place, int p, int amount) {
        channel.heldPlaces &= ~(1 << place);
        payFrom(channel, p, amount);
    }

    private void moveHeld(Channel channel, Game game, int take) {
        Game left = game.after(take);
        if (left == null) {
            payHeldStake(channel, game.turn, game.stake);
        } else {
            channel.heldGame = left;
            channel.deadline = now + channel.delay;
        }
    }

    private void payHeldStake(Channel channel, int p, int stake) {
        channel.heldGame = null;
        channel.deadline = 0;
        payFrom(channel, p, stake);
    }

    // ---- heights and watchers

    public int watch(int p, boolean on) {
        if (!isParty(p)) {
            return NO_SUCH;
        }
        int before = isIn(watched, p) ? 1 : 0;
        watched = on ? watched | 1 << p : watched & ~(1 << p);
        return before;
    }

    public int height(int n) {
        if (!isWithin(n, 1, MAX_HEIGHTS)) {
            return OUT_OF_BOUNDS;
        }
        for (int i = 0; i < n; i++) {
            oneHeightMore();
        }
        return now;
    }

    private void oneHeightMore() {
        now++;
        for (int c = 0; c < channelCount; c++) {
            meetHeight(channelAt(c));
        }
        for (int p = 0; p < PARTIES; p++) {
            if (isIn(watched, p)) {
                for (int c = 0; c < channelCount; c++) {
                    watchFor(p, channelAt(c));
                }
            }
        }
    }

    private void meetHeight(Channel channel) {
        if (channel == null) {
            return;
        }
        if (channel.phase == CLOSING && channel.until == now && channel.by != null) {
            endBy(channel.by);
        }
        for (int place = 0; place < PLACES; place++) {
            Lock lock = channel.heldLockAt(place);
            if (lock != null && lock.expiry == now) {
                payHeldLock(channel, place, lock.from, lock.amount);
            }
        }
        Game game = channel.heldGame;
        if (game != null && channel.deadline == now) {
            payHeldStake(channel, game.other, game.stake);
        }
    }

    private void watchFor(int p, Channel channel) {
        if (channel == null || !channel.hasMember(p)) {
            return;
        }
        if (channel.phase == ENDED) {
            for (int place = 0; place < PLACES; place++) {
                claimHeld(channel, place, p);
            }
            playFor(p, channel);
            return;
        }
        State newest = channel.newest;
        if (newest != null && channel.wouldTake(newest)
                && (channel.phase == CLOSING || hasUrgentLock(newest, p))) {
            makeShown(newest);
        }
    }

    /** One height later a channel that is shown would end too late for its lock. */
    private boolean hasUrgentLock(State state, int p) {
        for (int place = 0; place < PLACES; place++) {
            Lock lock = state.lockAt(place);
            if (lock != null && canClaim(lock, p) && lock.expiry == now + state.channel.delay + 1) {
                return true;
            }
        }
        return false;
    }

    private void playFor(int p, Channel channel) {
        Game game = channel.heldGame;
        if (game != null && game.turn == p) {
            int over = game.heap % 4;
            moveHeld(channel, game, over == 0 ? 1 : over);
        }
    }

    // ---- the route

    public int hop(int c, int from, int to) {
        Channel channel = channelAt(c);
        if (channel == null || !channel.hasMember(from) || !channel.hasMember(to)) {
            return NO_SUCH;
        }
        if (channel.phase != OPEN) {
            return NOT_NOW;
        }
        if (hopCount >= route.length || from == to || !continuesRoute(channel, from)) {
            return UNFIT;
        }
        route[hopCount] = new Hop(channel, from, to);
        hopCount++;
        return hopCount;
    }

    public int pay(int v, int expiry) {
        int hops = hopCount;
        hopCount = 0;
        if (!isWithin(v, 1, MAX_AMOUNT) || !isWithin(expiry, 1, MAX_EXPIRY)) {
            return OUT_OF_BOUNDS;
        }
        Hop last = hopAt(hops - 1);
        if (last == null || !hasRoomForSecret() || !hasRoomForStates(hops) || !allCarry(hops, v)) {
            return UNFIT;
        }
        int secret = newSecret(last.to);
        int hopExpiry = firstExpiry(hops, expiry);
        for (int i = 0; i < hops; i++) {
            Hop hop = hopAt(i);
            if (hop != null) {
                payHop(hop, v, secret, hopExpiry);
                hopExpiry -= hop.channel.delay + 1;
            }
        }
        return secret;
    }

    private boolean continuesRoute(Channel channel, int from) {
        for (int i = 0; i < hopCount; i++) {
            Hop hop = hopAt(i);
            if (hop != null && hop.channel == channel) {
                return false;
            }
        }
        Hop before = hopAt(hopCount - 1);
        return before == null || before.to == from;
    }

    private boolean allCarry(int hops, int v) {
        for (int i = 0; i < hops; i++) {
            Hop hop = hopAt(i);
            if (hop == null || !hop.canCarry(v)) {
                return false;
            }
        }
        return true;
    }

    private int firstExpiry(int hops, int lastExpiry) {
        int sum = lastExpiry;
        for (int i = 0; i < hops - 1; i++) {
            Hop hop = hopAt(i);
            if (hop != null) {
                sum += hop.channel.delay + 1;
            }
        }
        return sum;
    }

    private void payHop(Hop hop, int v, int secret, int expiry) {
        State made = newStateAsNewest(hop.channel);
        made.addLock(new Lock(hop.from, hop.to, v, secret, expiry));
        made.signed = hop.channel.members;
        hop.channel.noteSigned(made);
    }

    // ---- what is told

    public int account(int p) {
        return isParty(p) ? accounts.get(p) : NO_SUCH;
    }

    public int told(int c, int what) {
        Channel channel = channelAt(c);
        if (channel == null) {
            return NO_SUCH;
        }
        Game game = channel.heldGame;
        switch (what) {
            case 0: return channel.phase;
            case 1: return channel.sum;
            case 2: return channel.delay;
            case 3: return channel.members;
            case 4: return numberOf(channel.newest);
            case 5: return numberOf(channel.by);
            case 6: return channel.until;
            case 7: return channel.heldPlaces;
            case 8: return game == null ? NONE : game.turn;
            case 9: return game == null ? 0 : game.heap;
            case 10: return channel.deadline;
            case 11: return game == null ? 0 : game.stake;
            default: return NO_SUCH;
        }
    }

    public int of(int s, int what) {
        State state = stateAt(s);
        if (state == null) {
            return NO_SUCH;
        }
        Game game = state.game;
        switch (what) {
            case 0: return state.channel.number;
            case 1: return state.rank;
            case 2: return state.signed;
            case 3: return state.agreed;
            case 4: return state.doesCount() ? 1 : 0;
            case 5: return state.whole();
            case 6: return game == null ? NONE : game.turn;
            case 7: return game == null ? NONE : game.other;
            case 8: return game == null ? 0 : game.stake;
            case 9: return game == null ? 0 : game.heap;
            default: return NO_SUCH;
        }
    }

    public int share(int s, int p, int what) {
        State state = stateAt(s);
        if (state == null || !state.hasMember(p)) {
            return NO_SUCH;
        }
        switch (what) {
            case 0: return state.shares.get(p);
            case 1: return state.outs.get(p);
            default: return NO_SUCH;
        }
    }

    public int locked(int s, int place, int what) {
        State state = stateAt(s);
        if (state == null) {
            return NO_SUCH;
        }
        Lock lock = state.lockAt(place);
        if (lock == null) {
            return NO_SUCH;
        }
        switch (what) {
            case 0: return lock.from;
            case 1: return lock.to;
            case 2: return lock.amount;
            case 3: return lock.secret;
            case 4: return lock.expiry;
            default: return NO_SUCH;
        }
    }

    public int knows(int secret) {
        return isSecret(secret) ? knowers[secret] : NO_SUCH;
    }

    public int count(int what) {
        switch (what) {
            case 0: return channelCount;
            case 1: return stateCount;
            case 2: return secretCount;
            case 3: return now;
            case 4: return hopCount;
            case 5: return watched;
            case 6: return allThereIs();
            default: return NO_SUCH;
        }
    }

    private int allThereIs() {
        int sum = accounts.total();
        for (int c = 0; c < channelCount; c++) {
            Channel channel = channelAt(c);
            if (channel != null) {
                sum += channel.sum;
            }
        }
        return sum;
    }

    // ---- looking up

    private Channel channelAt(int c) {
        return c >= 0 && c < channelCount && c < channels.length ? channels[c] : null;
    }

    private State stateAt(int s) {
        return s >= 0 && s < stateCount && s < states.length ? states[s] : null;
    }

    /** Not bounded by hopCount, for pay() empties the route before it reads the hops. */
    private Hop hopAt(int i) {
        return i >= 0 && i < route.length ? route[i] : null;
    }

    private boolean isSecret(int secret) {
        return secret >= 0 && secret < secretCount && secret < knowers.length;
    }

    private static int numberOf(State state) {
        return state == null ? NONE : state.number;
    }

    private static boolean isParty(int p) {
        return p >= 0 && p < PARTIES;
    }

    private static boolean isPlace(int place) {
        return place >= 0 && place < PLACES;
    }

    private static boolean isIn(int set, int p) {
        return p >= 0 && p < PARTIES && (set & 1 << p) != 0;
    }

    private static boolean isWithin(int n, int least, int most) {
        return n >= least && n <= most;
    }

    /** A sum for each party. */
    private static final class Sums {
        private final int[] sums = new int[PARTIES];

        int get(int p) {
            return p >= 0 && p < sums.length ? sums[p] : 0;
        }

        void put(int p, int v) {
            if (p >= 0 && p < sums.length) {
                sums[p] = v;
            }
        }

        void add(int p, int v) {
            if (p >= 0 && p < sums.length) {
                sums[p] += v;
            }
        }

        int total() {
            int total = 0;
            for (int sum : sums) {
                total += sum;
            }
            return total;
        }
    }

    /** It never changes, so states share it with those that are made as they are. */
    private static final class Lock {
        final int from;
        final int to;
        final int amount;
        final int secret;
        final int expiry;

        Lock(int from, int to, int amount, int secret, int expiry) {
            this.from = from;
            this.to = to;
            this.amount = amount;
            this.secret = secret;
            this.expiry = expiry;
        }
    }

    /** It never changes, so a held game can go on while its state tells what it told. */
    private static final class Game {
        final int turn;
        final int other;
        final int stake;
        final int heap;

        Game(int turn, int other, int stake, int heap) {
            this.turn = turn;
            this.other = other;
            this.stake = stake;
            this.heap = heap;
        }

        /** Null when none are left, for the game is over then. */
        Game after(int take) {
            return heap <= take ? null : new Game(other, turn, stake, heap - take);
        }
    }

    private static final class State {
        final int number;
        final Channel channel;
        final int rank;
        final Sums shares = new Sums();
        final Sums outs = new Sums();
        private final Lock[] locks = new Lock[PLACES];
        Game game;
        int signed;
        int agreed;

        State(int number, Channel channel, int rank) {
            this.number = number;
            this.channel = channel;
            this.rank = rank;
        }

        void copyFrom(State source) {
            for (int p = 0; p < PARTIES; p++) {
                shares.put(p, source.shares.get(p));
            }
            for (int place = 0; place < locks.length; place++) {
                locks[place] = source.lockAt(place);
            }
            game = source.game;
        }

        boolean hasMember(int p) {
            return channel.hasMember(p);
        }

        boolean isFixed() {
            return channel.phase == ENDED || signed != 0;
        }

        boolean doesCount() {
            return channel.phase != ENDED && signed == channel.members && whole() == channel.sum;
        }

        int whole() {
            int sum = shares.total() + (game == null ? 0 : game.stake);
            for (Lock lock : locks) {
                sum += lock == null ? 0 : lock.amount;
            }
            return sum;
        }

        int freeOf(int p) {
            return shares.get(p) - outs.get(p);
        }

        boolean hasOut() {
            return outs.total() > 0;
        }

        Lock lockAt(int place) {
            return place >= 0 && place < locks.length ? locks[place] : null;
        }

        int emptyPlace() {
            for (int place = 0; place < locks.length; place++) {
                if (locks[place] == null) {
                    return place;
                }
            }
            return NONE;
        }

        int addLock(Lock lock) {
            int place = emptyPlace();
            if (place >= 0 && place < locks.length) {
                locks[place] = lock;
                shares.add(lock.from, -lock.amount);
            }
            return place;
        }

        void removeLock(int place) {
            if (place >= 0 && place < locks.length) {
                locks[place] = null;
            }
        }
    }

    private static final class Channel {
        final int number;
        final int members;
        final int delay;
        int sum;
        int phase = OPEN;
        int statesMade;
        /** Null only when it is ended: a state that counts stays so until the newest one pays out. */
        State newest;
        /** The state by which it is closing or ended. */
        State by;
        int until;
        int heldPlaces;
        Game heldGame;
        int deadline;

        Channel(int number, int members, int delay) {
            this.number = number;
            this.members = members;
            this.delay = delay;
        }

        boolean hasMember(int p) {
            return isIn(members, p);
        }

        void noteSigned(State state) {
            if (state.doesCount() && (newest == null || state.rank > newest.rank)) {
                newest = state;
            }
        }

        boolean wouldTake(State state) {
            return phase == OPEN || phase == CLOSING && (by == null || by.rank < state.rank);
        }

        Lock heldLockAt(int place) {
            return by != null && isPlace(place) && (heldPlaces & 1 << place) != 0 ? by.lockAt(place) : null;
        }
    }

    private static final class Hop {
        final Channel channel;
        final int from;
        final int to;

        Hop(Channel channel, int from, int to) {
            this.channel = channel;
            this.from = from;
            this.to = to;
        }

        boolean canCarry(int v) {
            State newest = channel.newest;
            return channel.phase == OPEN && newest != null
                    && newest.shares.get(from) >= v && newest.emptyPlace() != NONE;
        }
    }
}
