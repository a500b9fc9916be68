import java.util.ArrayDeque;
import java.util.ArrayList;
import java.util.Comparator;
import java.util.Deque;
import java.util.List;
import java.util.NoSuchElementException;

/**
 * The document once more, as slowly and as literally as can be: the flows are summed anew for every number
 * that a claim might get, and every copy is a new object. RandomRunsTest holds the class against it.
 */
final class Model {
    static final class Right {
        int account, reach, priority, amount, returnPercent, returnReach, keepPercent, got, returned, cutMonths;
        long earned;

        Right copy() {
            Right c = new Right();
            c.account = account; c.reach = reach; c.priority = priority; c.amount = amount;
            c.returnPercent = returnPercent; c.returnReach = returnReach; c.keepPercent = keepPercent;
            c.got = got; c.returned = returned; c.cutMonths = cutMonths; c.earned = earned;
            return c;
        }

        int banked(int x) {
            return x * keepPercent / 100;
        }

        int returns(int x) {
            return (x - banked(x)) * returnPercent / 100;
        }
    }

    static final class Lease {
        int right, account, reach, volume, price, months;

        Lease(int... f) {
            right = f[0]; account = f[1]; reach = f[2]; volume = f[3]; price = f[4]; months = f[5];
        }

        Lease copy() {
            return new Lease(right, account, reach, volume, price, months);
        }
    }

    static final class Option {
        int right, account, reach, trigger, premium, strike;

        Option(int... f) {
            right = f[0]; account = f[1]; reach = f[2]; trigger = f[3]; premium = f[4]; strike = f[5];
        }
    }

    static final class Claim {
        int kind, right, account, reach, wanted, got, banked, returned, returnReach;

        int field(int what) {
            return new int[] {kind, right, account, reach, wanted, got, banked, returned}[what];
        }
    }

    static final class Month {
        int time, got, outflow, least;
    }

    static final class World {
        List<int[]> reaches = new ArrayList<>();   // inflow, minimum, released
        int[] seasons = {100, 100, 100, 100, 100, 100, 100, 100, 100, 100, 100, 100};
        List<Integer> years = new ArrayList<>(List.of(100));
        long[] balances = new long[1];
        int[] banks = new int[1];
        int[] gots = new int[1];
        List<Right> rights = new ArrayList<>();
        List<Lease> leases = new ArrayList<>();
        List<Option> options = new ArrayList<>();
        List<Claim> claims = new ArrayList<>();
        int[] came = null;                          // null: no month was run
        List<Month> history = new ArrayList<>();    // the latest one first
        int time, loss, banked, lost, released;

        World copy() {
            World c = new World();
            for (int[] r : reaches) c.reaches.add(r.clone());
            c.seasons = seasons.clone();
            c.years = new ArrayList<>(years);
            c.balances = balances.clone();
            c.banks = banks.clone();
            c.gots = gots.clone();
            for (Right r : rights) c.rights.add(r.copy());
            for (Lease l : leases) c.leases.add(l.copy());
            c.options = new ArrayList<>(options);
            c.claims = new ArrayList<>(claims);
            c.came = came == null ? null : came.clone();
            c.history = new ArrayList<>(history);
            c.time = time; c.loss = loss; c.banked = banked; c.lost = lost; c.released = released;
            return c;
        }

        int year(int year) {
            return years.get(year % years.size());
        }

        int coming(int reach) {
            int seasonal = (int) Math.floor(reaches.get(reach)[0] * (double) seasons[time % 12] / 100.0 + 1e-9);
            int yearly = (int) Math.floor(seasonal * (double) year(time / 12) / 100.0 + 1e-9);
            return yearly + reaches.get(reach)[2];
        }

        int flow(int gauge) {
            int flow = 0;
            for (int r = 0; r <= gauge; r++) flow += came[r];
            for (Claim c : claims) {
                if (c.reach <= gauge) flow -= c.got;
                if (c.returnReach <= gauge) flow += c.returned;
            }
            return flow;
        }

        boolean exercised(Option o, int t) {
            return year(t / 12) < o.trigger;
        }

        List<Integer> seniority() {
            List<Integer> order = new ArrayList<>();
            for (int i = 0; i < rights.size(); i++) order.add(i);
            order.sort(Comparator.comparingInt(i -> rights.get(i).priority));
            return order;
        }

        boolean bearable(int reach, int x, int returned, int returnReach) {
            for (int g = reach; g < reaches.size(); g++) {
                int lowered = x - (returnReach <= g ? returned : 0);
                if (lowered > 0 && flow(g) - lowered < reaches.get(g)[1]) return false;
            }
            return true;
        }

        Claim serve(int kind, int right, int account, int reach, int number) {
            Right r = rights.get(right);
            Claim c = new Claim();
            c.kind = kind; c.right = right; c.account = account; c.reach = reach;
            c.wanted = kind == 0 ? number : number * (100 - r.returnPercent) / 100;
            c.returnReach = kind == 0 ? r.returnReach : reach;
            for (int x = c.wanted; x >= 0; x--) {
                int returned = kind == 0 ? r.returns(x) : 0;
                if (bearable(reach, x, returned, c.returnReach)) {
                    c.got = x;
                    c.returned = returned;
                    break;
                }
            }
            c.banked = kind == 0 ? r.banked(c.got) : 0;
            claims.add(c);
            r.got += c.got;
            r.returned += c.returned;
            gots[account] += c.got;
            banks[r.account] += c.banked;
            banked += c.banked;
            return c;
        }

        void settle(Claim c, int price) {
            Right r = rights.get(c.right);
            long money = (long) c.got * price;
            balances[c.account] -= money;
            balances[r.account] += money;
            r.earned += money;
        }

        int month(int silent) {
            came = new int[reaches.size()];
            for (int r = 0; r < came.length; r++) came[r] = coming(r);
            claims = new ArrayList<>();
            if (time % 12 == 0) {
                for (Option o : options) {
                    balances[o.account] -= o.premium;
                    balances[rights.get(o.right).account] += o.premium;
                }
            }
            for (int i : seniority()) {
                if (i != silent) claimAll(i);
            }
            Month m = new Month();
            m.time = time;
            m.least = -1;
            boolean[] cut = new boolean[rights.size()];
            for (Claim c : claims) {
                m.got += c.got;
                if (c.got < c.wanted) {
                    cut[c.right] = true;
                    int p = rights.get(c.right).priority;
                    if (m.least < 0 || p < m.least) m.least = p;
                }
            }
            for (int i = 0; i < cut.length; i++) if (cut[i]) rights.get(i).cutMonths++;
            m.outflow = reaches.isEmpty() ? 0 : flow(reaches.size() - 1);
            history.add(0, m);
            if (history.size() > 24) history.remove(24);
            for (Lease l : leases) l.months--;
            leases.removeIf(l -> l.months == 0);
            for (int a = 0; a < banks.length; a++) {
                int gone = (int) Math.ceil((double) banks[a] * loss / 100.0 - 1e-9);
                banks[a] -= gone;
                lost += gone;
            }
            time++;
            for (int[] r : reaches) r[2] = 0;
            return m.got;
        }

        void claimAll(int i) {
            int left = rights.get(i).amount;
            for (Lease l : leases) {
                if (l.right != i) continue;
                int number = l.volume < left ? l.volume : left;
                left -= number;
                settle(serve(1, i, l.account, l.reach, number), l.price);
            }
            for (Option o : options) {
                if (o.right == i && exercised(o, time)) {
                    settle(serve(2, i, o.account, o.reach, left), o.strike);
                    return;
                }
            }
            serve(0, i, rights.get(i).account, rights.get(i).reach, left);
        }

        int gotInMonth(int right) {
            int sum = 0;
            for (Claim c : claims) if (c.right == right) sum += c.got;
            return sum;
        }
    }

    private World w = new World();
    private byte[] buffer = new byte[0];
    private int errorOffset = -1, errorKind = 0;
    private final Deque<World> past = new ArrayDeque<>();
    private final World[] slots = new World[2];
    private String text = "";

    // ---- input

    public int append(int w0, int w1, int w2, int w3, int w4) {
        if (buffer.length > 880) return -1;
        java.nio.ByteBuffer b = java.nio.ByteBuffer.allocate(buffer.length + 20);
        b.put(buffer).putInt(w0).putInt(w1).putInt(w2).putInt(w3).putInt(w4);
        buffer = b.array();
        return buffer.length;
    }

    public boolean truncate(int length) {
        if (length < 0 || length > buffer.length) return false;
        buffer = java.util.Arrays.copyOf(buffer, length);
        return true;
    }

    public int load() {
        ModelParser p = new ModelParser(buffer);
        buffer = new byte[0];
        World loaded = p.parse();
        errorOffset = p.errorOffset;
        errorKind = p.errorKind;
        if (loaded == null) throw new IllegalArgumentException();
        w = loaded;
        past.clear();
        slots[0] = null;
        slots[1] = null;
        return w.rights.size();
    }

    public int errorOffset() {
        return errorOffset;
    }

    public int errorKind() {
        return errorKind;
    }

    // ---- river, accounts, rights

    private static void index(int i, int size) {
        if (i < 0 || i >= size) throw new IndexOutOfBoundsException();
    }

    private static int pick(int what, int... values) {
        if (what < 0 || what >= values.length) throw new NoSuchElementException();
        return values[what];
    }

    private static void range(int v, int low, int high) {
        if (v < low || v > high) throw new IllegalArgumentException();
    }

    private void hasReach(int reach) {
        index(reach, w.reaches.size());
    }

    private Right theRight(int right) {
        index(right, w.rights.size());
        return w.rights.get(right);
    }

    private void hasAccount(int account) {
        index(account, w.banks.length);
    }

    public int count(int what) {
        return pick(what, w.reaches.size(), w.banks.length, w.rights.size(), w.leases.size(), w.options.size(),
                w.time, w.loss, w.years.size());
    }

    public int season(int month) {
        return pick(month, w.seasons);
    }

    public int yearPercent(int year) {
        if (year < 0) throw new NoSuchElementException();
        return w.year(year);
    }

    public int reach(int reach, int what) {
        hasReach(reach);
        return pick(what, w.reaches.get(reach));
    }

    public int coming(int reach) {
        hasReach(reach);
        return w.coming(reach);
    }

    public long balance(int account) {
        hasAccount(account);
        return w.balances[account];
    }

    public int bank(int account) {
        hasAccount(account);
        return w.banks[account];
    }

    public int right(int right, int what) {
        Right r = theRight(right);
        return pick(what, r.account, r.reach, r.priority, r.amount, r.returnPercent, r.returnReach, r.keepPercent,
                r.got, r.returned, r.cutMonths);
    }

    public int bySeniority(int k) {
        List<Integer> order = w.seniority();
        return k >= 0 && k < order.size() ? order.get(k) : -1;
    }

    public int leaseField(int lease, int what) {
        index(lease, w.leases.size());
        Lease l = w.leases.get(lease);
        return pick(what, l.right, l.account, l.reach, l.volume, l.price, l.months);
    }

    public int optionField(int option, int what) {
        index(option, w.options.size());
        Option o = w.options.get(option);
        return pick(what, o.right, o.account, o.reach, o.trigger, o.premium, o.strike,
                w.exercised(o, w.time) ? 1 : 0);
    }

    // ---- the latest month

    public int claims() {
        return w.claims.size();
    }

    public int claim(int claim, int what) {
        index(claim, w.claims.size());
        if (what < 0 || what > 7) throw new NoSuchElementException();
        return w.claims.get(claim).field(what);
    }

    public int gauge(int reach, int what) {
        hasReach(reach);
        if (what < 0 || what > 4) throw new NoSuchElementException();
        if (w.came == null) return 0;
        int before = 0, diverted = 0, returned = 0;
        for (int r = 0; r <= reach; r++) before += w.came[r];
        for (Claim c : w.claims) {
            if (c.reach == reach) diverted += c.got;
            if (c.returnReach == reach) returned += c.returned;
        }
        return pick(what, w.came[reach], before, w.flow(reach), diverted, returned);
    }

    public int call() {
        return w.history.isEmpty() ? -1 : w.history.get(0).least;
    }

    public int dryGauges() {
        int set = 0;
        for (int r = 0; w.came != null && r < w.reaches.size(); r++) {
            if (w.flow(r) < w.reaches.get(r)[1]) set += 1 << r;
        }
        return set;
    }

    public double served() {
        double got = 0, wanted = 0;
        for (Claim c : w.claims) {
            got += c.got;
            wanted += c.wanted;
        }
        return wanted == 0 ? 1.0 : got / wanted;
    }

    public int outflow() {
        return w.history.isEmpty() ? 0 : w.history.get(0).outflow;
    }

    public boolean isBalanced() {
        return true;
    }

    public int history(int ago, int what) {
        if (what < 0 || what > 3) throw new NoSuchElementException();
        if (ago < 0 || ago >= w.history.size()) return -1;
        Month m = w.history.get(ago);
        return pick(what, m.time, m.got, m.outflow, m.least);
    }

    public double meanGot() {
        return w.history.stream().mapToInt(m -> m.got).sum() / (double) Math.max(1, w.history.size());
    }

    // ---- accounts of water

    public int got(int account) {
        hasAccount(account);
        return w.gots[account];
    }

    public long earned(int right) {
        return theRight(right).earned;
    }

    public int bankedInAll() {
        return w.banked;
    }

    public int lostInAll() {
        return w.lost;
    }

    public int releasedInAll() {
        return w.released;
    }

    public boolean areAccountsRight() {
        return true;
    }

    public int richest() {
        int best = w.balances.length - 1;
        for (int a = best; a >= 0; a--) if (w.balances[a] >= w.balances[best]) best = a;
        return best;
    }

    // ---- forecasts

    private World ahead(int months) {
        World c = w.copy();
        for (int m = 0; m < months; m++) c.month(-1);
        return c;
    }

    public int expected(int right, int months) {
        Right r = theRight(right);
        range(months, 1, 36);
        int sum = 0;
        World c = w.copy();
        for (int m = 0; m < months; m++) {
            c.month(-1);
            sum += c.gotInMonth(right);
        }
        return sum + 0 * r.got;
    }

    public int cutMonths(int right, int months) {
        Right r = theRight(right);
        range(months, 1, 36);
        return ahead(months).rights.get(right).cutMonths - r.cutMonths;
    }

    public long balanceAfter(int account, int months) {
        hasAccount(account);
        range(months, 1, 36);
        return ahead(months).balances[account];
    }

    public int driestMonth(int months) {
        range(months, 1, 36);
        if (w.reaches.isEmpty()) throw new IllegalStateException();
        World c = w.copy();
        int best = 0, least = Integer.MAX_VALUE;
        for (int m = 1; m <= months; m++) {
            c.month(-1);
            int out = c.flow(c.reaches.size() - 1);
            if (out < least) {
                least = out;
                best = m;
            }
        }
        return best;
    }

    public int nextExercise() {
        for (int m = 0; m <= 60; m++) {
            for (Option o : w.options) if (w.exercised(o, w.time + m)) return m;
        }
        return -1;
    }

    public int free(int reach) {
        hasReach(reach);
        World c = w.copy();
        c.came = new int[c.reaches.size()];
        for (int r = 0; r < c.came.length; r++) c.came[r] = c.coming(r);
        c.claims = new ArrayList<>();
        for (int v = 999; v > 0; v--) if (c.bearable(reach, v, 0, reach)) return v;
        return 0;
    }

    public int bestReach(int right) {
        theRight(right);
        int best = -1, most = -1;
        for (int reach = 0; reach < w.reaches.size(); reach++) {
            World c = w.copy();
            c.leases.removeIf(l -> l.right == right);
            c.options.removeIf(o -> o.right == right);
            c.leases.add(new Lease(right, 0, reach, c.rights.get(right).amount, 0, 9));
            c.month(-1);
            int got = 0;
            for (Claim k : c.claims) if (k.kind == 1 && k.right == right) got = k.got;
            if (got > most) {
                most = got;
                best = reach;
            }
        }
        return best;
    }

    private int rightsThatGet(int sign, World other, int without) {
        World usual = ahead(1);
        int set = 0;
        for (int i = 0; i < w.rights.size(); i++) {
            int more = Integer.signum(other.gotInMonth(i) - usual.gotInMonth(i));
            if (i != without && more == sign) set += 1 << i;
        }
        return set;
    }

    public int injured(int right, int reach, int volume) {
        Right r = theRight(right);
        hasReach(reach);
        range(volume, 1, 999);
        World c = w.copy();
        c.leases.add(new Lease(right, r.account, reach, volume, 0, 1));
        c.month(-1);
        return rightsThatGet(-1, c, right);
    }

    public int blocked(int right) {
        theRight(right);
        World c = w.copy();
        c.month(right);
        return rightsThatGet(1, c, right);
    }

    // ---- actions

    private void record() {
        past.push(w.copy());
        if (past.size() > 8) past.removeLast();
    }

    public int run(int months) {
        range(months, 1, 36);
        if (w.reaches.isEmpty()) throw new IllegalStateException();
        record();
        int sum = 0;
        for (int m = 0; m < months; m++) sum += w.month(-1);
        return sum;
    }

    public int lease(int right, int account, int reach, int volume, int price, int months) {
        theRight(right);
        hasAccount(account);
        hasReach(reach);
        range(volume, 1, 999);
        range(price, 0, 99);
        range(months, 1, 36);
        if (w.leases.size() == 8) throw new IllegalStateException();
        record();
        w.leases.add(new Lease(right, account, reach, volume, price, months));
        return w.leases.size() - 1;
    }

    public int endLease(int lease) {
        index(lease, w.leases.size());
        record();
        return w.leases.remove(lease).months;
    }

    public int release(int account, int reach, int volume) {
        hasAccount(account);
        hasReach(reach);
        if (volume < 1) throw new IllegalArgumentException();
        if (w.banks[account] < volume) throw new IllegalStateException();
        record();
        w.reaches.get(reach)[2] += volume;
        w.released += volume;
        return w.banks[account] -= volume;
    }

    public int setKeep(int right, int percent) {
        Right r = theRight(right);
        range(percent, 0, 100);
        record();
        int old = r.keepPercent;
        r.keepPercent = percent;
        return old;
    }

    public int setMinimum(int reach, int minimum) {
        hasReach(reach);
        range(minimum, 0, 999);
        record();
        int old = w.reaches.get(reach)[1];
        w.reaches.get(reach)[1] = minimum;
        return old;
    }

    public int transfer(int right, int account, int price) {
        Right r = theRight(right);
        hasAccount(account);
        range(price, 0, 9999);
        record();
        int old = r.account;
        w.balances[account] -= price;
        w.balances[old] += price;
        r.account = account;
        return old;
    }

    public int swap(int right, int other) {
        Right a = theRight(right), b = theRight(other);
        if (a.account != b.account) throw new IllegalStateException();
        record();
        int old = a.priority;
        a.priority = b.priority;
        b.priority = old;
        return a.priority;
    }

    public int undo() {
        if (past.isEmpty()) return -1;
        w = past.pop();
        return past.size();
    }

    public int undoDepth() {
        return past.size();
    }

    public boolean save(int slot) {
        index(slot, 2);
        boolean was = slots[slot] != null;
        slots[slot] = w.copy();
        return was;
    }

    public int restore(int slot) {
        index(slot, 2);
        if (slots[slot] == null) throw new IllegalStateException();
        w = slots[slot].copy();
        past.clear();
        return w.time;
    }

    // ---- formatted text

    public int formatClaims() {
        List<String> parts = new ArrayList<>();
        for (Claim c : w.claims) parts.add("rlo".charAt(c.kind) + "" + c.right + ":" + c.got + "/" + c.wanted);
        text = String.join(" ", parts);
        return text.length();
    }

    public int formatRiver() {
        List<String> parts = new ArrayList<>();
        for (int r = 0; r < w.reaches.size(); r++) parts.add("" + (w.came == null ? 0 : w.flow(r)));
        text = String.join(">", parts);
        return text.length();
    }

    public int formattedByte(int index) {
        return index >= 0 && index < text.length() ? text.charAt(index) : -1;
    }
}
