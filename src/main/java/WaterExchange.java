import java.util.NoSuchElementException;

public final class WaterExchange {
    public static final int NONE = -1;
    public static final int OWN = 0;
    public static final int LEASE = 1;
    public static final int OPTION = 2;
    public static final int SYNTAX = 1;
    public static final int BAD_NUMBER = 2;
    public static final int TWICE = 3;
    public static final int TOO_MANY = 4;

    private static final int BUFFER_ROOM = 900;
    private static final int MAX_REACHES = 6;
    private static final int MAX_ACCOUNTS = 5;
    private static final int MAX_RIGHTS = 10;
    private static final int MAX_LEASES = 8;
    private static final int MAX_OPTIONS = 6;
    private static final int MAX_YEARS = 5;
    private static final int MAX_HISTORY = 24;
    private static final int MAX_UNDO = 8;
    private static final int SLOTS = 2;
    private static final int MONTHS_OF_YEAR = 12;
    private static final int MOST_MONTHS = 36;
    private static final int MOST_VOLUME = 999;
    private static final int MOST_MINIMUM = 999;
    private static final int MOST_UNIT_PRICE = 99;
    private static final int MOST_TRANSFER_PRICE = 9999;
    private static final int MONTHS_LOOKED_AHEAD = 60;

    // The columns of each table stand in the order of the face's "what",
    // so that a call of the face can hand its "what" on as a column.
    private static final int REACH_INFLOW = 0;
    private static final int REACH_MINIMUM = 1;
    private static final int REACH_RELEASED = 2;
    private static final int REACH_COLUMNS = 3;

    private static final int ACCOUNT_BANK = 0;
    private static final int ACCOUNT_GOT = 1;
    private static final int ACCOUNT_COLUMNS = 2;

    private static final int RIGHT_ACCOUNT = 0;
    private static final int RIGHT_REACH = 1;
    private static final int RIGHT_PRIORITY = 2;
    private static final int RIGHT_AMOUNT = 3;
    private static final int RIGHT_RETURN_PERCENT = 4;
    private static final int RIGHT_RETURN_REACH = 5;
    private static final int RIGHT_KEEP_PERCENT = 6;
    private static final int RIGHT_GOT = 7;
    private static final int RIGHT_RETURNED = 8;
    private static final int RIGHT_CUT_MONTHS = 9;
    private static final int RIGHT_COLUMNS = 10;

    // Leases and options begin with the same columns, so that their claims can be made in one way.
    private static final int TRADE_RIGHT = 0;
    private static final int TRADE_ACCOUNT = 1;
    private static final int TRADE_REACH = 2;

    private static final int LEASE_VOLUME = 3;
    private static final int LEASE_PRICE = 4;
    private static final int LEASE_MONTHS = 5;
    private static final int LEASE_COLUMNS = 6;

    private static final int OPTION_TRIGGER = 3;
    private static final int OPTION_PREMIUM = 4;
    private static final int OPTION_STRIKE = 5;
    private static final int OPTION_COLUMNS = 6;
    private static final int OPTION_EXERCISED = 6;

    private static final int CLAIM_KIND = 0;
    private static final int CLAIM_RIGHT = 1;
    private static final int CLAIM_ACCOUNT = 2;
    private static final int CLAIM_REACH = 3;
    private static final int CLAIM_WANTED = 4;
    private static final int CLAIM_GOT = 5;
    private static final int CLAIM_BANKED = 6;
    private static final int CLAIM_RETURNED = 7;
    private static final int CLAIM_COLUMNS = 8;

    private static final int GAUGE_CAME = 0;
    private static final int GAUGE_BEFORE = 1;
    private static final int GAUGE_AFTER = 2;
    private static final int GAUGE_DIVERTED = 3;
    private static final int GAUGE_RETURNED = 4;
    private static final int GAUGE_COLUMNS = 5;

    private static final int MONTH_TIME = 0;
    private static final int MONTH_GOT = 1;
    private static final int MONTH_OUTFLOW = 2;
    private static final int MONTH_LEAST_PRIORITY = 3;
    private static final int MONTH_COLUMNS = 4;

    private final State now;
    // Every forecast works on this state, so that no call has to make one.
    private final State trial;
    private final Reader reader;
    private final int[] usualGot;
    private final State[] past;
    private int pastCount;
    private final State[] slots;
    private final boolean[] slotFilled;
    private final StringBuilder text;

    public WaterExchange() {
        now = new State();
        trial = new State();
        reader = new Reader();
        usualGot = new int[MAX_RIGHTS];
        past = new State[MAX_UNDO];
        for (int i = 0; i < MAX_UNDO; i++) {
            past[i] = new State();
        }
        slots = new State[SLOTS];
        for (int i = 0; i < SLOTS; i++) {
            slots[i] = new State();
        }
        slotFilled = new boolean[SLOTS];
        text = new StringBuilder();
        now.makeEmpty();
    }

    // ---- input

    public int append(int w0, int w1, int w2, int w3, int w4) {
        if (reader.length + 20 > BUFFER_ROOM) {
            return NONE;
        }
        reader.addWord(w0);
        reader.addWord(w1);
        reader.addWord(w2);
        reader.addWord(w3);
        reader.addWord(w4);
        return reader.length;
    }

    public boolean truncate(int length) {
        if (length < 0 || length > reader.length) {
            return false;
        }
        reader.length = length;
        return true;
    }

    public int load() throws IllegalArgumentException {
        boolean matches = reader.readText();
        reader.length = 0;
        if (!matches) {
            throw new IllegalArgumentException("the text does not match");
        }
        now.copyFrom(reader.target);
        pastCount = 0;
        for (int slot = 0; slot < SLOTS; slot++) {
            slotFilled[slot] = false;
        }
        return now.rights.rows;
    }

    public int errorOffset() {
        return reader.failOffset;
    }

    public int errorKind() {
        return reader.failKind;
    }

    // ---- river, accounts, rights

    public int count(int what) throws NoSuchElementException {
        switch (what) {
            case 0:
                return now.reaches.rows;
            case 1:
                return now.accounts.rows;
            case 2:
                return now.rights.rows;
            case 3:
                return now.leases.rows;
            case 4:
                return now.options.rows;
            case 5:
                return now.time;
            case 6:
                return now.loss;
            case 7:
                return now.yearCount;
            default:
                throw new NoSuchElementException("no such count");
        }
    }

    public int season(int month) throws NoSuchElementException {
        needWhat(month, MONTHS_OF_YEAR);
        return now.seasonPercentOf(month);
    }

    public int yearPercent(int year) throws NoSuchElementException {
        if (year < 0) {
            throw new NoSuchElementException("a year before the first");
        }
        return now.percentOfYear(year);
    }

    public int reach(int reach, int what) throws IndexOutOfBoundsException, NoSuchElementException {
        needRow(now.reaches, reach);
        needWhat(what, REACH_COLUMNS);
        return now.reaches.get(reach, what);
    }

    public int coming(int reach) throws IndexOutOfBoundsException {
        needRow(now.reaches, reach);
        return now.comingInto(reach);
    }

    public long balance(int account) throws IndexOutOfBoundsException {
        needRow(now.accounts, account);
        return now.balanceOf(account);
    }

    public int bank(int account) throws IndexOutOfBoundsException {
        needRow(now.accounts, account);
        return now.accounts.get(account, ACCOUNT_BANK);
    }

    public int right(int right, int what) throws IndexOutOfBoundsException, NoSuchElementException {
        needRow(now.rights, right);
        needWhat(what, RIGHT_COLUMNS);
        return now.rights.get(right, what);
    }

    public int bySeniority(int k) {
        return now.rightAtRank(k);
    }

    public int leaseField(int lease, int what) throws IndexOutOfBoundsException, NoSuchElementException {
        needRow(now.leases, lease);
        needWhat(what, LEASE_COLUMNS);
        return now.leases.get(lease, what);
    }

    public int optionField(int option, int what) throws IndexOutOfBoundsException, NoSuchElementException {
        needRow(now.options, option);
        needWhat(what, OPTION_COLUMNS + 1);
        if (what == OPTION_EXERCISED) {
            return now.isExercised(option, now.time) ? 1 : 0;
        }
        return now.options.get(option, what);
    }

    // ---- the latest month

    public int claims() {
        return now.claimRows.rows;
    }

    public int claim(int claim, int what) throws IndexOutOfBoundsException, NoSuchElementException {
        needRow(now.claimRows, claim);
        needWhat(what, CLAIM_COLUMNS);
        return now.claimRows.get(claim, what);
    }

    public int gauge(int reach, int what) throws IndexOutOfBoundsException, NoSuchElementException {
        needRow(now.reaches, reach);
        needWhat(what, GAUGE_COLUMNS);
        return now.gauges.get(reach, what);
    }

    public int call() {
        return now.monthField(0, MONTH_LEAST_PRIORITY);
    }

    public int dryGauges() {
        int dry = 0;
        for (int reach = 0; reach < now.gauges.rows; reach++) {
            if (now.gauges.get(reach, GAUGE_AFTER) < now.reaches.get(reach, REACH_MINIMUM)) {
                dry |= 1 << reach;
            }
        }
        return dry;
    }

    public double served() {
        int wanted = now.claimRows.sumOf(CLAIM_WANTED);
        if (wanted == 0) {
            return 1.0;
        }
        return (double) now.claimRows.sumOf(CLAIM_GOT) / (double) wanted;
    }

    public int outflow() {
        return now.outflowOfMonth();
    }

    public boolean isBalanced() {
        int flow = 0;
        for (int reach = 0; reach < now.gauges.rows; reach++) {
            flow += now.gauges.get(reach, GAUGE_CAME);
            flow -= now.gauges.get(reach, GAUGE_DIVERTED);
            flow += now.gauges.get(reach, GAUGE_RETURNED);
            if (flow != now.gauges.get(reach, GAUGE_AFTER)) {
                return false;
            }
        }
        return true;
    }

    public int history(int ago, int what) throws NoSuchElementException {
        needWhat(what, MONTH_COLUMNS);
        return now.monthField(ago, what);
    }

    public double meanGot() {
        int months = now.months.rows;
        if (months == 0) {
            return 0.0;
        }
        return (double) now.months.sumOf(MONTH_GOT) / (double) months;
    }

    // ---- accounts of water

    public int got(int account) throws IndexOutOfBoundsException {
        needRow(now.accounts, account);
        return now.accounts.get(account, ACCOUNT_GOT);
    }

    public long earned(int right) throws IndexOutOfBoundsException {
        needRow(now.rights, right);
        return now.earningsOf(right);
    }

    public int bankedInAll() {
        return now.bankedSum;
    }

    public int lostInAll() {
        return now.lostSum;
    }

    public int releasedInAll() {
        return now.releasedSum;
    }

    public boolean areAccountsRight() {
        long money = 0;
        for (int account = 0; account < now.accounts.rows; account++) {
            money += now.balanceOf(account);
        }
        int water = now.bankedSum - now.lostSum - now.releasedSum;
        return water == now.accounts.sumOf(ACCOUNT_BANK) && money == 0;
    }

    public int richest() {
        int best = 0;
        for (int account = 1; account < now.accounts.rows; account++) {
            if (now.balanceOf(account) > now.balanceOf(best)) {
                best = account;
            }
        }
        return best;
    }

    // ---- forecasts; nothing changes

    public int expected(int right, int months) throws IndexOutOfBoundsException, IllegalArgumentException {
        needRow(now.rights, right);
        needRange(months, 1, MOST_MONTHS);
        tryMonths(months);
        return trial.rights.get(right, RIGHT_GOT) - now.rights.get(right, RIGHT_GOT);
    }

    public int cutMonths(int right, int months) throws IndexOutOfBoundsException, IllegalArgumentException {
        needRow(now.rights, right);
        needRange(months, 1, MOST_MONTHS);
        tryMonths(months);
        return trial.rights.get(right, RIGHT_CUT_MONTHS) - now.rights.get(right, RIGHT_CUT_MONTHS);
    }

    public long balanceAfter(int account, int months) throws IndexOutOfBoundsException, IllegalArgumentException {
        needRow(now.accounts, account);
        needRange(months, 1, MOST_MONTHS);
        tryMonths(months);
        return trial.balanceOf(account);
    }

    public int driestMonth(int months) throws IllegalArgumentException, IllegalStateException {
        needRange(months, 1, MOST_MONTHS);
        needReaches();
        tryMonths(1);
        int driest = 1;
        int least = trial.outflowOfMonth();
        for (int month = 2; month <= months; month++) {
            trial.runMonth(NONE);
            if (trial.outflowOfMonth() < least) {
                driest = month;
                least = trial.outflowOfMonth();
            }
        }
        return driest;
    }

    private void tryMonths(int months) {
        trial.copyFrom(now);
        for (int month = 0; month < months; month++) {
            trial.runMonth(NONE);
        }
    }

    public int nextExercise() {
        for (int ahead = 0; ahead <= MONTHS_LOOKED_AHEAD; ahead++) {
            for (int option = 0; option < now.options.rows; option++) {
                if (now.isExercised(option, now.time + ahead)) {
                    return ahead;
                }
            }
        }
        return NONE;
    }

    public int free(int reach) throws IndexOutOfBoundsException {
        needRow(now.reaches, reach);
        trial.copyFrom(now);
        trial.openGauges();
        return trial.leastSpare(reach, trial.gauges.rows, MOST_VOLUME);
    }

    public int bestReach(int right) throws IndexOutOfBoundsException {
        needRow(now.rights, right);
        int best = 0;
        int most = NONE;
        for (int reach = 0; reach < now.reaches.rows; reach++) {
            int gotThere = gotByOneLease(right, reach);
            if (gotThere > most) {
                best = reach;
                most = gotThere;
            }
        }
        return best;
    }

    // The lease takes the whole amount, so that all the right gets is what its lease gets.
    private int gotByOneLease(int right, int reach) {
        trial.copyFrom(now);
        trial.leases.removeRowsWith(TRADE_RIGHT, right);
        trial.options.removeRowsWith(TRADE_RIGHT, right);
        trial.addLease(right, 0, reach, now.rights.get(right, RIGHT_AMOUNT), 0, 1);
        trial.runMonth(NONE);
        return trial.rights.get(right, RIGHT_GOT) - now.rights.get(right, RIGHT_GOT);
    }

    public int injured(int right, int reach, int volume) throws IndexOutOfBoundsException, IllegalArgumentException {
        needRow(now.rights, right);
        needRow(now.reaches, reach);
        needRange(volume, 1, MOST_VOLUME);
        tryMonths(1);
        keepUsualGot();
        trial.copyFrom(now);
        trial.addLease(right, now.rights.get(right, RIGHT_ACCOUNT), reach, volume, 0, 1);
        trial.runMonth(NONE);
        return othersThatGet(right, false);
    }

    public int blocked(int right) throws IndexOutOfBoundsException {
        needRow(now.rights, right);
        tryMonths(1);
        keepUsualGot();
        trial.copyFrom(now);
        trial.runMonth(right);
        return othersThatGet(right, true);
    }

    private void keepUsualGot() {
        for (int right = 0; right < MAX_RIGHTS; right++) {
            usualGot[right] = trial.rights.get(right, RIGHT_GOT);
        }
    }

    private int othersThatGet(int right, boolean more) {
        int set = 0;
        for (int other = 0; other < MAX_RIGHTS; other++) {
            int change = trial.rights.get(other, RIGHT_GOT) - usualGot[other];
            if (other != right && (more ? change > 0 : change < 0)) {
                set |= 1 << other;
            }
        }
        return set;
    }

    // ---- actions

    public int run(int months) throws IllegalArgumentException, IllegalStateException {
        needRange(months, 1, MOST_MONTHS);
        needReaches();
        record();
        int sum = 0;
        for (int month = 0; month < months; month++) {
            sum += now.runMonth(NONE);
        }
        return sum;
    }

    public int lease(int right, int account, int reach, int volume, int price, int months)
            throws IndexOutOfBoundsException, IllegalArgumentException, IllegalStateException {
        needRow(now.rights, right);
        needRow(now.accounts, account);
        needRow(now.reaches, reach);
        needRange(volume, 1, MOST_VOLUME);
        needRange(price, 0, MOST_UNIT_PRICE);
        needRange(months, 1, MOST_MONTHS);
        if (now.leases.rows >= MAX_LEASES) {
            throw new IllegalStateException("too many leases run");
        }
        record();
        return now.addLease(right, account, reach, volume, price, months);
    }

    public int endLease(int lease) throws IndexOutOfBoundsException {
        needRow(now.leases, lease);
        record();
        int monthsLeft = now.leases.get(lease, LEASE_MONTHS);
        now.leases.removeRow(lease);
        return monthsLeft;
    }

    public int release(int account, int reach, int volume)
            throws IndexOutOfBoundsException, IllegalArgumentException, IllegalStateException {
        needRow(now.accounts, account);
        needRow(now.reaches, reach);
        if (volume < 1) {
            throw new IllegalArgumentException("out of range");
        }
        if (now.accounts.get(account, ACCOUNT_BANK) < volume) {
            throw new IllegalStateException("the bank has less");
        }
        record();
        now.accounts.increase(account, ACCOUNT_BANK, -volume);
        now.reaches.increase(reach, REACH_RELEASED, volume);
        now.releasedSum += volume;
        return now.accounts.get(account, ACCOUNT_BANK);
    }

    public int setKeep(int right, int percent) throws IndexOutOfBoundsException, IllegalArgumentException {
        needRow(now.rights, right);
        needRange(percent, 0, 100);
        record();
        int before = now.rights.get(right, RIGHT_KEEP_PERCENT);
        now.rights.put(right, RIGHT_KEEP_PERCENT, percent);
        return before;
    }

    public int setMinimum(int reach, int minimum) throws IndexOutOfBoundsException, IllegalArgumentException {
        needRow(now.reaches, reach);
        needRange(minimum, 0, MOST_MINIMUM);
        record();
        int before = now.reaches.get(reach, REACH_MINIMUM);
        now.reaches.put(reach, REACH_MINIMUM, minimum);
        return before;
    }

    public int transfer(int right, int account, int price) throws IndexOutOfBoundsException, IllegalArgumentException {
        needRow(now.rights, right);
        needRow(now.accounts, account);
        needRange(price, 0, MOST_TRANSFER_PRICE);
        record();
        int before = now.rights.get(right, RIGHT_ACCOUNT);
        now.pay(account, before, price);
        now.rights.put(right, RIGHT_ACCOUNT, account);
        return before;
    }

    public int swap(int right, int other) throws IndexOutOfBoundsException, IllegalStateException {
        needRow(now.rights, right);
        needRow(now.rights, other);
        if (now.rights.get(right, RIGHT_ACCOUNT) != now.rights.get(other, RIGHT_ACCOUNT)) {
            throw new IllegalStateException("the rights belong to different accounts");
        }
        record();
        int priority = now.rights.get(right, RIGHT_PRIORITY);
        now.rights.put(right, RIGHT_PRIORITY, now.rights.get(other, RIGHT_PRIORITY));
        now.rights.put(other, RIGHT_PRIORITY, priority);
        now.rankRights();
        return now.rights.get(right, RIGHT_PRIORITY);
    }

    public int undo() {
        if (pastCount <= 0 || pastCount > MAX_UNDO) {
            return NONE;
        }
        pastCount--;
        now.copyFrom(past[pastCount]);
        return pastCount;
    }

    public int undoDepth() {
        return pastCount;
    }

    public boolean save(int slot) throws IndexOutOfBoundsException {
        needSlot(slot);
        boolean wasFilled = slotFilled[slot];
        slots[slot].copyFrom(now);
        slotFilled[slot] = true;
        return wasFilled;
    }

    public int restore(int slot) throws IndexOutOfBoundsException, IllegalStateException {
        needSlot(slot);
        if (!slotFilled[slot]) {
            throw new IllegalStateException("the slot is empty");
        }
        now.copyFrom(slots[slot]);
        pastCount = 0;
        return now.time;
    }

    // Called when nothing can refuse the action any more: a refused one leaves no record.
    private void record() {
        if (pastCount >= MAX_UNDO) {
            State oldest = past[0];
            for (int i = 1; i < MAX_UNDO; i++) {
                past[i - 1] = past[i];
            }
            past[MAX_UNDO - 1] = oldest;
            pastCount = MAX_UNDO - 1;
        }
        past[pastCount].copyFrom(now);
        pastCount++;
    }

    // ---- formatted text

    public int formatClaims() {
        text.setLength(0);
        for (int claim = 0; claim < now.claimRows.rows; claim++) {
            if (claim > 0) {
                text.append(' ');
            }
            text.append(letterOf(now.claimRows.get(claim, CLAIM_KIND)));
            text.append(now.claimRows.get(claim, CLAIM_RIGHT));
            text.append(':');
            text.append(now.claimRows.get(claim, CLAIM_GOT));
            text.append('/');
            text.append(now.claimRows.get(claim, CLAIM_WANTED));
        }
        return text.length();
    }

    private static char letterOf(int kind) {
        if (kind == LEASE) {
            return 'l';
        }
        return kind == OPTION ? 'o' : 'r';
    }

    public int formatRiver() {
        text.setLength(0);
        for (int reach = 0; reach < now.reaches.rows; reach++) {
            if (reach > 0) {
                text.append('>');
            }
            text.append(now.gauges.get(reach, GAUGE_AFTER));
        }
        return text.length();
    }

    public int formattedByte(int index) {
        if (index < 0 || index >= text.length()) {
            return NONE;
        }
        return text.charAt(index);
    }

    // ---- what the face refuses

    private static void needRow(Table table, int row) {
        if (!table.has(row)) {
            throw new IndexOutOfBoundsException("no such number");
        }
    }

    private static void needSlot(int slot) {
        if (slot < 0 || slot >= SLOTS) {
            throw new IndexOutOfBoundsException("no such slot");
        }
    }

    private static void needWhat(int what, int end) {
        if (what < 0 || what >= end) {
            throw new NoSuchElementException("no such element");
        }
    }

    private static void needRange(int value, int least, int most) {
        if (value < least || value > most) {
            throw new IllegalArgumentException("out of range");
        }
    }

    private void needReaches() {
        if (now.reaches.rows == 0) {
            throw new IllegalStateException("there are no reaches");
        }
    }

    // All of its room is made at once, so that no call makes rows. A cell that is not there reads as 0
    // and takes nothing: no index can go astray.
    private static final class Table {
        private final int columns;
        private final int[] cells;
        private int rows;

        Table(int room, int columns) {
            this.columns = columns;
            this.cells = new int[room * columns];
        }

        boolean has(int row) {
            return row >= 0 && row < rows;
        }

        int get(int row, int column) {
            if (row < 0 || row >= rows || column < 0 || column >= columns) {
                return 0;
            }
            return cells[row * columns + column];
        }

        void put(int row, int column, int value) {
            if (row >= 0 && row < rows && column >= 0 && column < columns) {
                cells[row * columns + column] = value;
            }
        }

        void increase(int row, int column, int by) {
            if (row >= 0 && row < rows && column >= 0 && column < columns) {
                cells[row * columns + column] += by;
            }
        }

        void increaseFrom(int firstRow, int column, int by) {
            if (column < 0 || column >= columns) {
                return;
            }
            for (int row = Math.max(firstRow, 0); row < rows; row++) {
                cells[row * columns + column] += by;
            }
        }

        int sumOf(int column) {
            int sum = 0;
            for (int row = 0; row < rows; row++) {
                sum += get(row, column);
            }
            return sum;
        }

        int addRow() {
            if ((rows + 1) * columns > cells.length) {
                return NONE;
            }
            int row = rows;
            rows++;
            for (int at = row * columns; at < rows * columns; at++) {
                cells[at] = 0;
            }
            return row;
        }

        void removeRow(int row) {
            if (!has(row)) {
                return;
            }
            int behind = (row + 1) * columns;
            System.arraycopy(cells, behind, cells, row * columns, rows * columns - behind);
            rows--;
        }

        void removeRowsWith(int column, int value) {
            for (int row = rows - 1; row >= 0; row--) {
                if (get(row, column) == value) {
                    removeRow(row);
                }
            }
        }

        void removeAll() {
            rows = 0;
        }

        void copyFrom(Table other) {
            if (other.cells.length != cells.length || other.columns != columns) {
                return;
            }
            System.arraycopy(other.cells, 0, cells, 0, other.rows * columns);
            rows = other.rows;
        }
    }

    // What a load sets and actions can change stands in one object, so that snapshots, undo and forecasts
    // are copies of it.
    private static final class State {
        private final Table reaches;
        private final int[] seasons;
        private final int[] years;
        private int yearCount;
        private final Table accounts;
        private final long[] balances;
        private final Table rights;
        private final int[] ranking;
        private final long[] earnings;
        private final Table leases;
        private final Table options;
        private final Table claimRows;
        private final Table gauges;
        private final Table months;
        private int time;
        private int loss;
        private int bankedSum;
        private int lostSum;
        private int releasedSum;

        State() {
            // One lease more than may run: a forecast may add one to a full table.
            int leaseRoom = MAX_LEASES + 1;
            reaches = new Table(MAX_REACHES, REACH_COLUMNS);
            seasons = new int[MONTHS_OF_YEAR];
            years = new int[MAX_YEARS];
            accounts = new Table(MAX_ACCOUNTS, ACCOUNT_COLUMNS);
            balances = new long[MAX_ACCOUNTS];
            rights = new Table(MAX_RIGHTS, RIGHT_COLUMNS);
            ranking = new int[MAX_RIGHTS];
            earnings = new long[MAX_RIGHTS];
            leases = new Table(leaseRoom, LEASE_COLUMNS);
            options = new Table(MAX_OPTIONS, OPTION_COLUMNS);
            claimRows = new Table(MAX_RIGHTS + leaseRoom, CLAIM_COLUMNS);
            gauges = new Table(MAX_REACHES, GAUGE_COLUMNS);
            months = new Table(MAX_HISTORY, MONTH_COLUMNS);
        }

        void copyFrom(State other) {
            reaches.copyFrom(other.reaches);
            System.arraycopy(other.seasons, 0, seasons, 0, MONTHS_OF_YEAR);
            System.arraycopy(other.years, 0, years, 0, MAX_YEARS);
            yearCount = other.yearCount;
            accounts.copyFrom(other.accounts);
            System.arraycopy(other.balances, 0, balances, 0, MAX_ACCOUNTS);
            rights.copyFrom(other.rights);
            System.arraycopy(other.ranking, 0, ranking, 0, MAX_RIGHTS);
            System.arraycopy(other.earnings, 0, earnings, 0, MAX_RIGHTS);
            leases.copyFrom(other.leases);
            options.copyFrom(other.options);
            claimRows.copyFrom(other.claimRows);
            gauges.copyFrom(other.gauges);
            months.copyFrom(other.months);
            time = other.time;
            loss = other.loss;
            bankedSum = other.bankedSum;
            lostSum = other.lostSum;
            releasedSum = other.releasedSum;
        }

        void makeEmpty() {
            reaches.removeAll();
            for (int month = 0; month < MONTHS_OF_YEAR; month++) {
                seasons[month] = 100;
            }
            years[0] = 100;
            yearCount = 1;
            accounts.removeAll();
            accounts.addRow();
            for (int account = 0; account < MAX_ACCOUNTS; account++) {
                balances[account] = 0;
            }
            rights.removeAll();
            for (int right = 0; right < MAX_RIGHTS; right++) {
                ranking[right] = 0;
                earnings[right] = 0;
            }
            leases.removeAll();
            options.removeAll();
            claimRows.removeAll();
            gauges.removeAll();
            months.removeAll();
            time = 0;
            loss = 0;
            bankedSum = 0;
            lostSum = 0;
            releasedSum = 0;
        }

        // -- what is asked of a state

        int seasonPercentOf(int month) {
            return month >= 0 && month < MONTHS_OF_YEAR ? seasons[month] : 0;
        }

        int percentOfYear(int year) {
            if (year < 0 || yearCount <= 0 || yearCount > MAX_YEARS) {
                return 0;
            }
            return years[year % yearCount];
        }

        int comingInto(int reach) {
            int inflow = reaches.get(reach, REACH_INFLOW);
            int inSeason = inflow * seasonPercentOf(time % MONTHS_OF_YEAR) / 100;
            int inYear = inSeason * percentOfYear(time / MONTHS_OF_YEAR) / 100;
            return inYear + reaches.get(reach, REACH_RELEASED);
        }

        boolean isExercised(int option, int month) {
            return percentOfYear(month / MONTHS_OF_YEAR) < options.get(option, OPTION_TRIGGER);
        }

        long balanceOf(int account) {
            return account >= 0 && account < MAX_ACCOUNTS ? balances[account] : 0;
        }

        long earningsOf(int right) {
            return right >= 0 && right < MAX_RIGHTS ? earnings[right] : 0;
        }

        int rightAtRank(int rank) {
            return rights.has(rank) && rank < MAX_RIGHTS ? ranking[rank] : NONE;
        }

        int monthField(int ago, int what) {
            if (ago < 0 || ago >= months.rows) {
                return NONE;
            }
            return months.get(months.rows - 1 - ago, what);
        }

        int outflowOfMonth() {
            return gauges.get(gauges.rows - 1, GAUGE_AFTER);
        }

        // -- single changes

        void rankRights() {
            for (int right = 0; right < rights.rows; right++) {
                int priority = rights.get(right, RIGHT_PRIORITY);
                int rank = 0;
                for (int other = 0; other < rights.rows; other++) {
                    if (rights.get(other, RIGHT_PRIORITY) < priority) {
                        rank++;
                    }
                }
                if (rank < MAX_RIGHTS) {
                    ranking[rank] = right;
                }
            }
        }

        int addLease(int right, int account, int reach, int volume, int price, int monthsLeft) {
            int lease = leases.addRow();
            leases.put(lease, TRADE_RIGHT, right);
            leases.put(lease, TRADE_ACCOUNT, account);
            leases.put(lease, TRADE_REACH, reach);
            leases.put(lease, LEASE_VOLUME, volume);
            leases.put(lease, LEASE_PRICE, price);
            leases.put(lease, LEASE_MONTHS, monthsLeft);
            return lease;
        }

        void pay(int from, int to, int money) {
            if (from >= 0 && from < MAX_ACCOUNTS && to >= 0 && to < MAX_ACCOUNTS) {
                balances[from] -= money;
                balances[to] += money;
            }
        }

        // -- a month

        // A forecast asks what happens if one right makes no claims; NONE silences no right.
        int runMonth(int silentRight) {
            openGauges();
            payPremiums();
            claimRows.removeAll();
            int leastPriority = NONE;
            for (int rank = 0; rank < rights.rows; rank++) {
                int right = rightAtRank(rank);
                if (right != silentRight) {
                    serveClaimsOf(right);
                }
                if (isCut(right)) {
                    rights.increase(right, RIGHT_CUT_MONTHS, 1);
                    // Ranks go by ascending priorities: the first right that is cut has the least one.
                    if (leastPriority == NONE) {
                        leastPriority = rights.get(right, RIGHT_PRIORITY);
                    }
                }
            }
            int sum = claimRows.sumOf(CLAIM_GOT);
            remember(sum, leastPriority);
            endMonth();
            return sum;
        }

        void openGauges() {
            gauges.removeAll();
            int flow = 0;
            for (int reach = 0; reach < reaches.rows; reach++) {
                int came = comingInto(reach);
                flow += came;
                gauges.addRow();
                gauges.put(reach, GAUGE_CAME, came);
                gauges.put(reach, GAUGE_BEFORE, flow);
                gauges.put(reach, GAUGE_AFTER, flow);
            }
        }

        private void payPremiums() {
            if (time % MONTHS_OF_YEAR != 0) {
                return;
            }
            for (int option = 0; option < options.rows; option++) {
                int owner = rights.get(options.get(option, TRADE_RIGHT), RIGHT_ACCOUNT);
                pay(options.get(option, TRADE_ACCOUNT), owner, options.get(option, OPTION_PREMIUM));
            }
        }

        private boolean isCut(int right) {
            for (int claim = 0; claim < claimRows.rows; claim++) {
                if (claimRows.get(claim, CLAIM_RIGHT) == right
                        && claimRows.get(claim, CLAIM_GOT) < claimRows.get(claim, CLAIM_WANTED)) {
                    return true;
                }
            }
            return false;
        }

        private void serveClaimsOf(int right) {
            int left = rights.get(right, RIGHT_AMOUNT);
            for (int lease = 0; lease < leases.rows; lease++) {
                if (leases.get(lease, TRADE_RIGHT) == right) {
                    int number = Math.min(leases.get(lease, LEASE_VOLUME), left);
                    left -= number;
                    claimOfOther(LEASE, leases, lease, number, leases.get(lease, LEASE_PRICE));
                }
            }
            int option = exercisedOptionOf(right);
            if (option == NONE) {
                claimOfOwner(right, left);
            } else {
                claimOfOther(OPTION, options, option, left, options.get(option, OPTION_STRIKE));
            }
        }

        private int exercisedOptionOf(int right) {
            for (int option = 0; option < options.rows; option++) {
                if (options.get(option, TRADE_RIGHT) == right && isExercised(option, time)) {
                    return option;
                }
            }
            return NONE;
        }

        private int addClaim(int kind, int right, int account, int reach) {
            int claim = claimRows.addRow();
            claimRows.put(claim, CLAIM_KIND, kind);
            claimRows.put(claim, CLAIM_RIGHT, right);
            claimRows.put(claim, CLAIM_ACCOUNT, account);
            claimRows.put(claim, CLAIM_REACH, reach);
            return claim;
        }

        // Only what the right would use up may be taken elsewhere: the rest is what it would have returned.
        private void claimOfOther(int kind, Table trades, int trade, int number, int price) {
            int right = trades.get(trade, TRADE_RIGHT);
            int account = trades.get(trade, TRADE_ACCOUNT);
            int reach = trades.get(trade, TRADE_REACH);
            int wanted = percentOf(number, 100 - rights.get(right, RIGHT_RETURN_PERCENT));
            int taken = leastSpare(reach, gauges.rows, wanted);
            divert(addClaim(kind, right, account, reach), wanted, taken);
            int money = taken * price;
            pay(account, rights.get(right, RIGHT_ACCOUNT), money);
            if (right >= 0 && right < MAX_RIGHTS) {
                earnings[right] += money;
            }
        }

        private void claimOfOwner(int right, int wanted) {
            int account = rights.get(right, RIGHT_ACCOUNT);
            int reach = rights.get(right, RIGHT_REACH);
            int keepPercent = rights.get(right, RIGHT_KEEP_PERCENT);
            int returnPercent = rights.get(right, RIGHT_RETURN_PERCENT);
            int returnReach = rights.get(right, RIGHT_RETURN_REACH);
            int most = leastSpare(reach, returnReach, wanted);
            int spareBelow = leastSpare(returnReach, gauges.rows, most);
            int taken = mostThatLowersBy(spareBelow, most, keepPercent, returnPercent);
            int claim = addClaim(OWN, right, account, reach);
            divert(claim, wanted, taken);
            int banked = percentOf(taken, keepPercent);
            putInBank(claim, account, banked);
            giveBack(claim, returnReach, percentOf(taken - banked, returnPercent));
        }

        private static int percentOf(int number, int percent) {
            return number * percent / 100;
        }

        // What a claim lowers a gauge by never falls as the claim gets more, so halving finds the greatest number.
        private static int mostThatLowersBy(int spare, int most, int keepPercent, int returnPercent) {
            int low = 0;
            int high = most;
            for (int step = 0; step < 32 && low < high; step++) {
                int middle = (low + high + 1) / 2;
                int used = middle - percentOf(middle, keepPercent);
                if (middle - percentOf(used, returnPercent) <= spare) {
                    low = middle;
                } else {
                    high = middle - 1;
                }
            }
            return low;
        }

        // A gauge below its minimum has nothing to spare, rather than less than nothing.
        int leastSpare(int fromReach, int endReach, int limit) {
            int least = limit;
            for (int reach = fromReach; reach < endReach && reach < gauges.rows; reach++) {
                int spare = gauges.get(reach, GAUGE_AFTER) - reaches.get(reach, REACH_MINIMUM);
                least = Math.min(least, Math.max(spare, 0));
            }
            return least;
        }

        private void divert(int claim, int wanted, int taken) {
            int reach = claimRows.get(claim, CLAIM_REACH);
            claimRows.put(claim, CLAIM_WANTED, wanted);
            claimRows.put(claim, CLAIM_GOT, taken);
            gauges.increase(reach, GAUGE_DIVERTED, taken);
            gauges.increaseFrom(reach, GAUGE_AFTER, -taken);
            rights.increase(claimRows.get(claim, CLAIM_RIGHT), RIGHT_GOT, taken);
            accounts.increase(claimRows.get(claim, CLAIM_ACCOUNT), ACCOUNT_GOT, taken);
        }

        private void putInBank(int claim, int account, int banked) {
            claimRows.put(claim, CLAIM_BANKED, banked);
            accounts.increase(account, ACCOUNT_BANK, banked);
            bankedSum += banked;
        }

        private void giveBack(int claim, int reach, int returned) {
            claimRows.put(claim, CLAIM_RETURNED, returned);
            gauges.increase(reach, GAUGE_RETURNED, returned);
            gauges.increaseFrom(reach, GAUGE_AFTER, returned);
            rights.increase(claimRows.get(claim, CLAIM_RIGHT), RIGHT_RETURNED, returned);
        }

        private void remember(int sum, int leastPriority) {
            if (months.rows >= MAX_HISTORY) {
                months.removeRow(0);
            }
            int row = months.addRow();
            months.put(row, MONTH_TIME, time);
            months.put(row, MONTH_GOT, sum);
            months.put(row, MONTH_OUTFLOW, outflowOfMonth());
            months.put(row, MONTH_LEAST_PRIORITY, leastPriority);
        }

        private void endMonth() {
            // From the last lease on, so that one that ends moves none that is still to come.
            for (int lease = leases.rows - 1; lease >= 0; lease--) {
                leases.increase(lease, LEASE_MONTHS, -1);
                if (leases.get(lease, LEASE_MONTHS) <= 0) {
                    leases.removeRow(lease);
                }
            }
            for (int account = 0; account < accounts.rows; account++) {
                long bank = accounts.get(account, ACCOUNT_BANK);
                int lost = (int) ((bank * loss + 99) / 100);
                accounts.increase(account, ACCOUNT_BANK, -lost);
                lostSum += lost;
            }
            for (int reach = 0; reach < reaches.rows; reach++) {
                reaches.put(reach, REACH_RELEASED, 0);
            }
            time++;
        }
    }

    // The buffer and the error of the latest text stand here: no undo and no snapshot brings older ones back.
    private static final class Reader {
        private static final int END = 0;
        private static final int WORD = 1;
        private static final int NUMBER = 2;
        private static final int SEMICOLON = 3;
        private static final int STRANGE = 4;

        private final byte[] text;
        private final State target;
        private int length;
        private int failOffset;
        private int failKind;
        private int tokenKind;
        private int tokenStart;
        private int tokenEnd;

        Reader() {
            text = new byte[BUFFER_ROOM];
            target = new State();
            failOffset = NONE;
        }

        void addWord(int word) {
            for (int shift = 24; shift >= 0 && length < BUFFER_ROOM; shift -= 8) {
                text[length] = (byte) (word >>> shift);
                length++;
            }
        }

        boolean readText() {
            failOffset = NONE;
            failKind = 0;
            tokenEnd = 0;
            target.makeEmpty();
            nextToken();
            // A line has at least one byte, so that there are no more lines than bytes.
            for (int line = 0; line < length && tokenKind != END && failKind == 0; line++) {
                readLine();
                if (tokenKind != SEMICOLON) {
                    fail(SYNTAX, tokenStart);
                }
                nextToken();
            }
            target.rankRights();
            return failKind == 0;
        }

        // -- tokens

        private void nextToken() {
            int at = tokenEnd;
            while (at < length && isBlank(text[at])) {
                at++;
            }
            tokenStart = at;
            tokenEnd = at;
            if (at >= length) {
                tokenKind = END;
            } else if (isLetter(text[at])) {
                tokenKind = WORD;
                while (tokenEnd < length && isLetter(text[tokenEnd])) {
                    tokenEnd++;
                }
            } else if (isDigit(text[at])) {
                tokenKind = NUMBER;
                while (tokenEnd < length && isDigit(text[tokenEnd])) {
                    tokenEnd++;
                }
            } else {
                tokenKind = text[at] == ';' ? SEMICOLON : STRANGE;
                tokenEnd++;
            }
        }

        private static boolean isBlank(int sign) {
            return sign == 32 || sign == 9 || sign == 10;
        }

        private static boolean isLetter(int sign) {
            return sign >= 'a' && sign <= 'z';
        }

        private static boolean isDigit(int sign) {
            return sign >= '0' && sign <= '9';
        }

        private boolean isWord(String word) {
            if (tokenKind != WORD || tokenEnd - tokenStart != word.length()) {
                return false;
            }
            for (int i = 0; i < word.length() && tokenStart + i < length; i++) {
                if (text[tokenStart + i] != word.charAt(i)) {
                    return false;
                }
            }
            return true;
        }

        // Only the first error counts.
        private void fail(int kind, int offset) {
            if (failKind == 0) {
                failKind = kind;
                failOffset = offset;
            }
        }

        // After an error it takes nothing, so that a line can go on without asking after each number.
        private int takeNumber(int least, int most) {
            if (failKind != 0) {
                return least;
            }
            if (tokenKind != NUMBER) {
                fail(SYNTAX, tokenStart);
                return least;
            }
            int value = 0;
            for (int at = tokenStart; at < tokenEnd && at < tokenStart + 3 && at < length; at++) {
                value = value * 10 + (text[at] - '0');
            }
            if (tokenEnd - tokenStart > 3 || value < least || value > most) {
                fail(BAD_NUMBER, tokenStart);
                return least;
            }
            nextToken();
            return value;
        }

        // -- lines

        private void readLine() {
            if (isWord("reach")) {
                readReach();
            } else if (isWord("season")) {
                readSeason();
            } else if (isWord("years")) {
                readYears();
            } else if (isWord("loss")) {
                nextToken();
                target.loss = takeNumber(0, 50);
            } else if (isWord("accounts")) {
                readAccounts();
            } else if (isWord("right")) {
                readRight();
            } else if (isWord("lease")) {
                readLease();
            } else if (isWord("option")) {
                readOption();
            } else {
                fail(SYNTAX, tokenStart);
            }
        }

        private void takeRowWord(Table table, int most) {
            if (table.rows >= most) {
                fail(TOO_MANY, tokenStart);
            } else {
                nextToken();
            }
        }

        private void readReach() {
            takeRowWord(target.reaches, MAX_REACHES);
            int inflow = takeNumber(0, 999);
            int minimum = takeNumber(0, MOST_MINIMUM);
            int row = target.reaches.addRow();
            target.reaches.put(row, REACH_INFLOW, inflow);
            target.reaches.put(row, REACH_MINIMUM, minimum);
        }

        private void readSeason() {
            nextToken();
            target.seasons[0] = takeNumber(0, 200);
            for (int month = 1; month < MONTHS_OF_YEAR && tokenKind == NUMBER && failKind == 0; month++) {
                target.seasons[month] = takeNumber(0, 200);
            }
            if (tokenKind == NUMBER) {
                fail(TOO_MANY, tokenStart);
            }
        }

        private void readYears() {
            nextToken();
            target.years[0] = takeNumber(0, 200);
            target.yearCount = 1;
            for (int year = 1; year < MAX_YEARS && tokenKind == NUMBER && failKind == 0; year++) {
                target.years[year] = takeNumber(0, 200);
                target.yearCount = year + 1;
            }
            if (tokenKind == NUMBER) {
                fail(TOO_MANY, tokenStart);
            }
        }

        private void readAccounts() {
            // A lease or an option needs a right, so that rights stand behind any of the three.
            if (target.rights.rows > 0) {
                fail(SYNTAX, tokenStart);
                return;
            }
            nextToken();
            int accounts = takeNumber(1, MAX_ACCOUNTS);
            target.accounts.removeAll();
            for (int account = 0; account < accounts; account++) {
                target.accounts.addRow();
            }
        }

        private void readRight() {
            takeRowWord(target.rights, MAX_RIGHTS);
            int account = takeNumber(0, target.accounts.rows - 1);
            int reach = takeNumber(0, target.reaches.rows - 1);
            int priorityStart = tokenStart;
            int priority = takeNumber(1, 99);
            failIfTaken(target.rights, RIGHT_PRIORITY, priority, priorityStart);
            int amount = takeNumber(1, 999);
            int returnPercent = 0;
            int returnReach = reach;
            if (isWord("returns")) {
                nextToken();
                returnPercent = takeNumber(0, 90);
                returnReach = takeNumber(reach, target.reaches.rows - 1);
            }
            int keepPercent = 0;
            if (isWord("keeps")) {
                nextToken();
                keepPercent = takeNumber(0, 100);
            }
            int row = target.rights.addRow();
            target.rights.put(row, RIGHT_ACCOUNT, account);
            target.rights.put(row, RIGHT_REACH, reach);
            target.rights.put(row, RIGHT_PRIORITY, priority);
            target.rights.put(row, RIGHT_AMOUNT, amount);
            target.rights.put(row, RIGHT_RETURN_PERCENT, returnPercent);
            target.rights.put(row, RIGHT_RETURN_REACH, returnReach);
            target.rights.put(row, RIGHT_KEEP_PERCENT, keepPercent);
        }

        private void failIfTaken(Table table, int column, int value, int offset) {
            for (int row = 0; row < table.rows; row++) {
                if (table.get(row, column) == value) {
                    fail(TWICE, offset);
                }
            }
        }

        private void readLease() {
            takeRowWord(target.leases, MAX_LEASES);
            int right = takeNumber(0, target.rights.rows - 1);
            int account = takeNumber(0, target.accounts.rows - 1);
            int reach = takeNumber(0, target.reaches.rows - 1);
            int volume = takeNumber(1, MOST_VOLUME);
            int price = takeNumber(0, MOST_UNIT_PRICE);
            int months = takeNumber(1, MOST_MONTHS);
            target.addLease(right, account, reach, volume, price, months);
        }

        private void readOption() {
            takeRowWord(target.options, MAX_OPTIONS);
            int rightStart = tokenStart;
            int right = takeNumber(0, target.rights.rows - 1);
            failIfTaken(target.options, TRADE_RIGHT, right, rightStart);
            int account = takeNumber(0, target.accounts.rows - 1);
            int reach = takeNumber(0, target.reaches.rows - 1);
            int trigger = takeNumber(1, 200);
            int premium = takeNumber(0, 999);
            int strike = takeNumber(0, MOST_UNIT_PRICE);
            int row = target.options.addRow();
            target.options.put(row, TRADE_RIGHT, right);
            target.options.put(row, TRADE_ACCOUNT, account);
            target.options.put(row, TRADE_REACH, reach);
            target.options.put(row, OPTION_TRIGGER, trigger);
            target.options.put(row, OPTION_PREMIUM, premium);
            target.options.put(row, OPTION_STRIKE, strike);
        }
    }
}
