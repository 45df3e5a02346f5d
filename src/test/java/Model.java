import java.util.ArrayList;
import java.util.List;

/**
 * The document once more, in its plainest form: nothing is kept that can be told from the rest, THE NEWEST is looked
 * for each time, what is HELD is a copy of its own. It is there to be compared with, so it shares no code with the
 * program.
 */
final class Model {
    static final class St {
        int channel;
        int rank;
        int[] share = new int[6];
        int[] out = new int[6];
        int[][] lock = new int[3][];
        int[] game;
        int signed;
        int agreed;
    }

    static final class Ch {
        int members;
        int delay;
        int sum;
        int phase = 1;
        int by = -1;
        int until;
        int[][] held = new int[3][];
        int[] game;
        int deadline;
    }

    final int[] account = {10000, 10000, 10000, 10000, 10000, 10000};
    final List<Ch> channels = new ArrayList<>();
    final List<St> states = new ArrayList<>();
    final List<Integer> secrets = new ArrayList<>();
    final List<int[]> route = new ArrayList<>();
    int height;
    int watched;

    private static boolean out(int n, int least, int most) {
        return n < least || n > most;
    }

    private boolean noChannel(int c) {
        return out(c, 0, channels.size() - 1);
    }

    private boolean noState(int s) {
        return out(s, 0, states.size() - 1);
    }

    private boolean noSecret(int k) {
        return out(k, 0, secrets.size() - 1);
    }

    private boolean noMember(int c, int p) {
        return out(p, 0, 5) || (channels.get(c).members >> p) % 2 == 0;
    }

    private boolean noMemberOf(int s, int p) {
        return noMember(states.get(s).channel, p);
    }

    private boolean fixed(int s) {
        return channels.get(states.get(s).channel).phase == 3 || states.get(s).signed > 0;
    }

    private int whole(int s) {
        St st = states.get(s);
        int sum = st.game == null ? 0 : st.game[2];
        for (int n : st.share) {
            sum += n;
        }
        for (int[] l : st.lock) {
            sum += l == null ? 0 : l[2];
        }
        return sum;
    }

    private boolean counts(int s) {
        Ch ch = channels.get(states.get(s).channel);
        return states.get(s).signed == ch.members && whole(s) == ch.sum && ch.phase != 3;
    }

    private int newest(int c) {
        int best = -1;
        for (int s = 0; s < states.size(); s++) {
            if (states.get(s).channel == c && counts(s) && (best < 0 || states.get(s).rank > states.get(best).rank)) {
                best = s;
            }
        }
        return best;
    }

    private boolean knows(int k, int p) {
        return (secrets.get(k) >> p) % 2 == 1;
    }

    private int make(int c) {
        St st = new St();
        st.channel = c;
        for (St other : states) {
            st.rank += other.channel == c ? 1 : 0;
        }
        states.add(st);
        return states.size() - 1;
    }

    int channel(int set, int v, int delay) {
        if (out(set, 0, 63)) {
            return -1;
        }
        int members = 0;
        boolean poor = false;
        for (int p = 0; p < 6; p++) {
            if ((set >> p) % 2 == 1) {
                members++;
                poor |= account[p] < v;
            }
        }
        if (out(v, 0, 10000) || out(delay, 2, 20) || out(members, 2, 4)) {
            return -3;
        }
        if (channels.size() == 8 || states.size() == 64 || poor) {
            return -4;
        }
        Ch ch = new Ch();
        ch.members = set;
        ch.delay = delay;
        ch.sum = v * members;
        channels.add(ch);
        St st = states.get(make(channels.size() - 1));
        st.signed = set;
        for (int p = 0; p < 6; p++) {
            if ((set >> p) % 2 == 1) {
                account[p] -= v;
                st.share[p] = v;
            }
        }
        return channels.size() - 1;
    }

    int state(int c) {
        if (noChannel(c)) {
            return -1;
        }
        if (channels.get(c).phase == 3) {
            return -2;
        }
        if (states.size() == 64) {
            return -4;
        }
        St from = states.get(newest(c));
        int made = make(c);
        St st = states.get(made);
        st.share = from.share.clone();
        st.game = from.game == null ? null : from.game.clone();
        for (int i = 0; i < 3; i++) {
            st.lock[i] = from.lock[i] == null ? null : from.lock[i].clone();
        }
        return made;
    }

    private int free(int s, int p) {
        return states.get(s).share[p] - states.get(s).out[p];
    }

    int change(int s, int from, int to, int v) {
        if (noState(s) || noMemberOf(s, from) || noMemberOf(s, to)) {
            return -1;
        }
        if (fixed(s)) {
            return -2;
        }
        if (out(v, 1, 60000)) {
            return -3;
        }
        if (from == to || free(s, from) < v) {
            return -4;
        }
        states.get(s).share[from] -= v;
        states.get(s).share[to] += v;
        return states.get(s).share[from];
    }

    private int emptyPlace(int s) {
        for (int i = 0; i < 3; i++) {
            if (states.get(s).lock[i] == null) {
                return i;
            }
        }
        return -1;
    }

    int lock(int s, int from, int to, int v, int secret, int expiry) {
        if (noState(s) || noMemberOf(s, from) || noMemberOf(s, to) || noSecret(secret)) {
            return -1;
        }
        if (fixed(s)) {
            return -2;
        }
        if (out(v, 1, 60000) || out(expiry, 1, 1000000)) {
            return -3;
        }
        int place = emptyPlace(s);
        if (from == to || free(s, from) < v || place < 0) {
            return -4;
        }
        states.get(s).lock[place] = new int[] {from, to, v, secret, expiry};
        states.get(s).share[from] -= v;
        return place;
    }

    int unlock(int s, int place, boolean opened) {
        if (noState(s) || out(place, 0, 2) || states.get(s).lock[place] == null) {
            return -1;
        }
        if (fixed(s)) {
            return -2;
        }
        int[] l = states.get(s).lock[place];
        states.get(s).lock[place] = null;
        states.get(s).share[l[opened ? 1 : 0]] += l[2];
        return l[2];
    }

    int game(int s, int p, int q, int v, int heap) {
        if (noState(s) || noMemberOf(s, p) || noMemberOf(s, q)) {
            return -1;
        }
        if (fixed(s)) {
            return -2;
        }
        if (out(v, 1, 10000) || out(heap, 1, 20)) {
            return -3;
        }
        if (p == q || states.get(s).game != null || free(s, p) < v || free(s, q) < v) {
            return -4;
        }
        states.get(s).share[p] -= v;
        states.get(s).share[q] -= v;
        states.get(s).game = new int[] {p, q, v + v, heap};
        return v + v;
    }

    int move(int s, int take) {
        if (noState(s)) {
            return -1;
        }
        if (fixed(s)) {
            return -2;
        }
        if (out(take, 1, 3)) {
            return -3;
        }
        int[] g = states.get(s).game;
        if (g == null || g[3] < take) {
            return -4;
        }
        g[3] -= take;
        if (g[3] == 0) {
            states.get(s).share[g[0]] += g[2];
            states.get(s).game = null;
        }
        int turn = g[0];
        g[0] = g[1];
        g[1] = turn;
        return g[3];
    }

    int out3(int s, int p, int v) {
        if (noState(s) || noMemberOf(s, p)) {
            return -1;
        }
        if (fixed(s)) {
            return -2;
        }
        if (out(v, 0, 60000)) {
            return -3;
        }
        if (states.get(s).share[p] < v) {
            return -4;
        }
        int was = states.get(s).out[p];
        states.get(s).out[p] = v;
        return was;
    }

    private static int size(int set) {
        int n = 0;
        for (int p = 0; p < 6; p++) {
            n += (set >> p) % 2;
        }
        return n;
    }

    int sign(int s, int p) {
        if (noState(s) || noMemberOf(s, p)) {
            return -1;
        }
        St st = states.get(s);
        if (channels.get(st.channel).phase == 3) {
            return -2;
        }
        if ((st.signed >> p) % 2 == 1) {
            return -4;
        }
        st.signed += 1 << p;
        return size(st.signed);
    }

    private void showIt(int s) {
        Ch ch = channels.get(states.get(s).channel);
        if (ch.phase == 1) {
            ch.phase = 2;
            ch.until = height + ch.delay;
            ch.by = s;
        } else if (states.get(ch.by).rank < states.get(s).rank) {
            ch.by = s;
        }
    }

    int show(int s, int p) {
        if (noState(s) || noMemberOf(s, p)) {
            return -1;
        }
        Ch ch = channels.get(states.get(s).channel);
        if (ch.phase == 3) {
            return -2;
        }
        if (!counts(s) || (ch.phase == 2 && states.get(ch.by).rank >= states.get(s).rank)) {
            return -4;
        }
        showIt(s);
        return ch.until;
    }

    private void end(int c, int s) {
        Ch ch = channels.get(c);
        St st = states.get(s);
        for (int p = 0; p < 6; p++) {
            account[p] += st.share[p];
        }
        ch.sum = 0;
        for (int i = 0; i < 3; i++) {
            int[] l = st.lock[i];
            if (l != null && l[4] > height) {
                ch.held[i] = l.clone();
                ch.sum += l[2];
            } else if (l != null) {
                account[l[0]] += l[2];
            }
        }
        if (st.game != null) {
            ch.game = st.game.clone();
            ch.deadline = height + ch.delay;
            ch.sum += st.game[2];
        }
        ch.phase = 3;
        ch.by = s;
        ch.until = 0;
    }

    int agree(int s, int p) {
        if (noState(s) || noMemberOf(s, p)) {
            return -1;
        }
        St st = states.get(s);
        Ch ch = channels.get(st.channel);
        if (ch.phase != 1) {
            return -2;
        }
        if (newest(st.channel) != s || (st.agreed >> p) % 2 == 1) {
            return -4;
        }
        st.agreed += 1 << p;
        int many = size(st.agreed);
        if (many == size(ch.members)) {
            boolean some = false;
            for (int o : st.out) {
                some |= o > 0;
            }
            if (!some) {
                end(st.channel, s);
            } else {
                for (int m = 0; m < 6; m++) {
                    account[m] += st.out[m];
                    st.share[m] -= st.out[m];
                    ch.sum -= st.out[m];
                    st.out[m] = 0;
                }
                st.agreed = 0;
            }
        }
        return many;
    }

    int secret(int p) {
        if (out(p, 0, 5)) {
            return -1;
        }
        if (secrets.size() == 16) {
            return -4;
        }
        secrets.add(1 << p);
        return secrets.size() - 1;
    }

    int tell(int k, int from, int to) {
        if (noSecret(k) || out(from, 0, 5) || out(to, 0, 5)) {
            return -1;
        }
        if (!knows(k, from)) {
            return -4;
        }
        if (knows(k, to)) {
            return 0;
        }
        secrets.set(k, secrets.get(k) + (1 << to));
        return 1;
    }

    private boolean may(int c, int place, int p) {
        int[] l = channels.get(c).held[place];
        return l != null && l[1] == p && knows(l[3], p);
    }

    private void take(int c, int place) {
        Ch ch = channels.get(c);
        int[] l = ch.held[place];
        account[l[1]] += l[2];
        ch.sum -= l[2];
        ch.held[place] = null;
        secrets.set(l[3], 63);
    }

    int claim(int c, int place, int p) {
        if (noChannel(c) || out(place, 0, 2) || out(p, 0, 5)) {
            return -1;
        }
        if (channels.get(c).phase != 3) {
            return -2;
        }
        if (!may(c, place, p)) {
            return -4;
        }
        int many = channels.get(c).held[place][2];
        take(c, place);
        return many;
    }

    private int play(int c, int many) {
        Ch ch = channels.get(c);
        int[] g = ch.game;
        int left = g[3] - many;
        if (left == 0) {
            over(ch, g[0]);
        } else {
            ch.game = new int[] {g[1], g[0], g[2], left};
            ch.deadline = height + ch.delay;
        }
        return left;
    }

    private void over(Ch ch, int winner) {
        account[winner] += ch.game[2];
        ch.sum -= ch.game[2];
        ch.game = null;
        ch.deadline = 0;
    }

    int step(int c, int p, int many) {
        if (noChannel(c) || out(p, 0, 5)) {
            return -1;
        }
        int[] g = channels.get(c).game;
        if (g == null) {
            return -2;
        }
        if (out(many, 1, 3)) {
            return -3;
        }
        if (g[0] != p || g[3] < many) {
            return -4;
        }
        return play(c, many);
    }

    int watch(int p, boolean on) {
        if (out(p, 0, 5)) {
            return -1;
        }
        int was = (watched >> p) % 2;
        watched += ((on ? 1 : 0) - was) << p;
        return was;
    }

    int height(int n) {
        if (out(n, 1, 100)) {
            return -3;
        }
        for (int i = 0; i < n; i++) {
            one();
        }
        return height;
    }

    private void one() {
        height++;
        for (int c = 0; c < channels.size(); c++) {
            Ch ch = channels.get(c);
            if (ch.phase == 2 && ch.until == height) {
                end(c, ch.by);
            }
            for (int i = 0; i < 3; i++) {
                int[] l = ch.held[i];
                if (l != null && l[4] == height) {
                    account[l[0]] += l[2];
                    ch.sum -= l[2];
                    ch.held[i] = null;
                }
            }
            if (ch.game != null && ch.deadline == height) {
                over(ch, ch.game[1]);
            }
        }
        for (int p = 0; p < 6; p++) {
            for (int c = 0; c < channels.size(); c++) {
                if ((watched >> p) % 2 == 1 && !noMember(c, p)) {
                    act(p, c);
                }
            }
        }
    }

    private void act(int p, int c) {
        Ch ch = channels.get(c);
        if (ch.phase == 1) {
            boolean due = false;
            for (int[] l : states.get(newest(c)).lock) {
                due |= l != null && l[1] == p && knows(l[3], p) && l[4] == height + ch.delay + 1;
            }
            if (due) {
                showIt(newest(c));
            }
        } else if (ch.phase == 2) {
            if (states.get(newest(c)).rank > states.get(ch.by).rank) {
                showIt(newest(c));
            }
        } else {
            for (int i = 0; i < 3; i++) {
                if (may(c, i, p)) {
                    take(c, i);
                }
            }
            if (ch.game != null && ch.game[0] == p) {
                int left = ch.game[3];
                while (left > 3) {
                    left -= 4;
                }
                play(c, left == 0 ? 1 : left);
            }
        }
    }

    int hop(int c, int from, int to) {
        if (noChannel(c) || noMember(c, from) || noMember(c, to)) {
            return -1;
        }
        if (channels.get(c).phase != 1) {
            return -2;
        }
        boolean bad = route.size() == 4 || from == to;
        for (int[] h : route) {
            bad |= h[0] == c;
        }
        bad |= !route.isEmpty() && route.get(route.size() - 1)[2] != from;
        if (bad) {
            return -4;
        }
        route.add(new int[] {c, from, to});
        return route.size();
    }

    int pay(int v, int expiry) {
        List<int[]> hops = new ArrayList<>(route);
        route.clear();
        if (out(v, 1, 60000) || out(expiry, 1, 1000000)) {
            return -3;
        }
        if (hops.isEmpty() || secrets.size() == 16 || states.size() + hops.size() > 64) {
            return -4;
        }
        for (int[] h : hops) {
            if (channels.get(h[0]).phase != 1) {
                return -4;
            }
            int s = newest(h[0]);
            if (states.get(s).share[h[1]] < v || emptyPlace(s) < 0) {
                return -4;
            }
        }
        int k = secret(hops.get(hops.size() - 1)[2]);
        int[] expiries = new int[hops.size()];
        for (int i = hops.size() - 1; i >= 0; i--) {
            expiries[i] = i == hops.size() - 1 ? expiry : expiries[i + 1] + channels.get(hops.get(i)[0]).delay + 1;
        }
        for (int i = 0; i < hops.size(); i++) {
            int[] h = hops.get(i);
            St st = states.get(state(h[0]));
            int place = emptyPlace(states.size() - 1);
            st.lock[place] = new int[] {h[1], h[2], v, k, expiries[i]};
            st.share[h[1]] -= v;
            st.signed = channels.get(h[0]).members;
        }
        return k;
    }

    int account(int p) {
        return out(p, 0, 5) ? -1 : account[p];
    }

    int told(int c, int what) {
        if (noChannel(c) || out(what, 0, 11)) {
            return -1;
        }
        Ch ch = channels.get(c);
        int bits = 0;
        for (int i = 0; i < 3; i++) {
            bits += ch.held[i] == null ? 0 : 1 << i;
        }
        int[] g = ch.game == null ? new int[] {-1, -1, 0, 0} : ch.game;
        return new int[] {ch.phase, ch.sum, ch.delay, ch.members, newest(c), ch.by, ch.until, bits,
            g[0], g[3], ch.deadline, g[2]}[what];
    }

    int of(int s, int what) {
        if (noState(s) || out(what, 0, 9)) {
            return -1;
        }
        St st = states.get(s);
        int[] g = st.game == null ? new int[] {-1, -1, 0, 0} : st.game;
        return new int[] {st.channel, st.rank, st.signed, st.agreed, counts(s) ? 1 : 0, whole(s),
            g[0], g[1], g[2], g[3]}[what];
    }

    int share(int s, int p, int what) {
        if (noState(s) || noMemberOf(s, p) || out(what, 0, 1)) {
            return -1;
        }
        return what == 0 ? states.get(s).share[p] : states.get(s).out[p];
    }

    int locked(int s, int place, int what) {
        if (noState(s) || out(place, 0, 2) || out(what, 0, 4) || states.get(s).lock[place] == null) {
            return -1;
        }
        return states.get(s).lock[place][what];
    }

    int knows(int k) {
        return noSecret(k) ? -1 : secrets.get(k);
    }

    int count(int what) {
        if (out(what, 0, 6)) {
            return -1;
        }
        int all = 0;
        for (int a : account) {
            all += a;
        }
        for (Ch ch : channels) {
            all += ch.sum;
        }
        return new int[] {channels.size(), states.size(), secrets.size(), height, route.size(), watched, all}[what];
    }
}
