/** Traders who owe one another by handshakes; ../shared/DOC.md tells what each call answers. */
public final class HandshakeBinds {
    public static final int NONE = -1, BAD = -2, STATE = -3, FULL = -4;
    public static final long NO = Long.MIN_VALUE;

    private static final int NOTHING = -11;
    private static final int CAST = -12;
    private static final int PLACE = -13;
    private static final int SIZE = -14;
    private static final int LACKING = -5;
    private static final int NONE_BELOW_ZERO = -1000001;
    private static final int FAULT_BASE = -10;
    private static final int ENDED_EARLY = 100;

    private static final int MAX_TRADERS = 6;
    private static final int MAX_SUM = 9999;
    private static final int MAX_DAY = 9999;
    private static final int MAX_SQUEEZE = 99;
    private static final int MAX_V = 9;
    private static final int MAX_READ = 999;
    private static final int MAX_PASS = 60;
    private static final int MAX_SEEN_DAYS = 20;
    private static final int MAX_TEXT = 100;
    private static final int MAX_CLAUSES = 10;
    private static final int MAX_EXCHANGES = 6;
    private static final int MAX_NEST = 4;
    private static final int MAX_SEEN = 5;
    private static final int MAX_PLAN = 10;
    private static final int MAX_BOOK = 8;
    private static final int MAX_TRACE = 20;
    private static final int MAX_ITEMS = 60;
    private static final int TAPES = 6;
    private static final int ROW_PARTS = 4;
    private static final int BIND_WITHOUT = 5;
    private static final int FIRST_PURSE = 100;
    private static final int RICH_PURSE = 99999;

    private static final int KINDS = 7;
    private static final int BROKER = 1;
    private static final int GLOVED = 2;
    private static final int FRAIL = 3;
    private static final int PORTER = 4;
    private static final int APPRENTICE = 5;
    private static final int TOLD = 6;

    private static final int ACTS = 3;
    private static final int GRIPS = 0;
    private static final int LETS = 1;
    private static final int TELLS = 2;
    private static final int MAX_ACT_DEPTH = 40;

    private static final int SORT_BYTE = 0;
    private static final int SORT_SHORT = 1;
    private static final int SORT_INT = 2;
    private static final int SORT_BOOLEAN = 4;
    private static final int SORT_NOTHING = -1;

    private static final int PLAN_DAY = 0;
    private static final int PLAN_PAYS = 1;
    private static final int PLAN_FORGIVEN = 2;
    private static final int PLAN_FORGIVES = 3;

    /** The kind above each kind; -1 above the topmost. */
    private static final int[] ABOVE = {-1, 0, 0, 0, 1, 2, 3};

    /** The body that a kind itself has for grips, lets, tells; 0 where it has none. */
    private static final int[] BODIES = {
        10, 11, 12,
        0, 20, 0,
        30, 0, 0,
        0, 0, 40,
        50, 51, 0,
        0, 0, 60,
        71, 70, 0
    };

    private final Market now = new Market();
    private final Market kept = new Market();
    private final Ledger trial = new Ledger();
    private final Scribe scribe = new Scribe();
    private final Actor actor = new Actor();
    private final Tape[] tapes = new Tape[TAPES];
    private boolean hasImage;

    public HandshakeBinds() {
        for (int i = 0; i < tapes.length; i++) {
            tapes[i] = new Tape();
        }
    }

    // ---- traders, exchanges, shakes

    public int trader(int kind, int v) {
        if (kind < 0 || kind >= KINDS) {
            return NONE;
        }
        if (v < 0 || v > MAX_V) {
            return BAD;
        }
        if (now.ledger.size >= MAX_TRADERS) {
            return FULL;
        }
        return now.join(kind, v);
    }

    public int of(int trader, int what) {
        if (!isTrader(trader)) {
            return NONE_BELOW_ZERO;
        }
        switch (what) {
            case 0:
                return at(now.kinds, trader);
            case 1:
                return at(now.vs, trader);
            case 2:
                return at(now.ledger.purses, trader);
            case 3:
                return now.ledger.owesAll(trader);
            case 4:
                return now.ledger.owedBy(trader, 0);
            case 5:
                return now.ledger.balance(trader);
            case 6:
                return now.ledger.failing(1 << trader, 0);
            case 7:
                return now.ledger.gift(trader);
            default:
                return NONE_BELOW_ZERO;
        }
    }

    public int owe(int one, int other, int n) {
        int refusal = refusedPair(one, other);
        if (refusal != 0) {
            return refusal;
        }
        if (n < 0 || n > MAX_SUM) {
            return BAD;
        }
        int before = now.ledger.debt(one, other);
        now.ledger.setDebt(one, other, n);
        return before;
    }

    public int purse(int trader, int n) {
        if (!isTrader(trader)) {
            return NONE;
        }
        if (n < 0 || n > MAX_SUM) {
            return BAD;
        }
        int before = at(now.ledger.purses, trader);
        put(now.ledger.purses, trader, n);
        return before;
    }

    public int reads(int one, int other, int squeeze, int n) {
        int refusal = refusedPair(one, other);
        if (refusal != 0) {
            return refusal;
        }
        if (squeeze < 0 || squeeze > MAX_SQUEEZE || n < 0 || n > MAX_PASS) {
            return BAD;
        }
        return now.readAs(held(), one, other, squeeze, now.day + n);
    }

    public int shake(int one, int other, int squeeze) {
        int refusal = refusedPair(one, other);
        if (refusal != 0) {
            return refusal;
        }
        if (squeeze < 0 || squeeze > MAX_SQUEEZE) {
            return BAD;
        }
        int sum = now.ledger.debt(one, other) + now.readAs(held(), one, other, squeeze, now.day);
        now.ledger.setDebt(one, other, Math.min(sum, MAX_SUM));
        return now.ledger.debt(one, other);
    }

    public int between(int one, int other, int what) {
        if (what < 0 || what > 1) {
            return NONE;
        }
        int refusal = refusedPair(one, other);
        if (refusal != 0) {
            return refusal;
        }
        if (what == 0) {
            return now.ledger.debt(one, other);
        }
        now.readAll(held(), one, other);
        return now.span();
    }

    public int squeezes(int one, int other, int sum, int what) {
        if (what < 0 || what > 1) {
            return NONE;
        }
        int refusal = refusedPair(one, other);
        if (refusal != 0) {
            return refusal;
        }
        if (sum < 1 || sum > MAX_READ) {
            return BAD;
        }
        now.readAll(held(), one, other);
        return what == 0 ? now.squeezesFor(sum) : now.leastFor(sum);
    }

    public int row(int trader, int part, int n) {
        if (!isTrader(trader) || part < 0 || part >= ROW_PARTS) {
            return NONE;
        }
        if (n < 0 || n > 9) {
            return BAD;
        }
        if (at(now.kinds, trader) != TOLD) {
            return STATE;
        }
        int place = trader * ROW_PARTS + part;
        int before = at(now.toldRows, place);
        put(now.toldRows, place, n);
        return before;
    }

    public int feed(int sign) {
        if (sign < 0 || sign > 127) {
            return BAD;
        }
        if (scribe.size >= MAX_TEXT) {
            return FULL;
        }
        return scribe.append(sign);
    }

    public int exchange() {
        if (scribe.known >= MAX_EXCHANGES) {
            return FULL;
        }
        int fault = scribe.close();
        if (fault >= 0) {
            return FAULT_BASE - fault;
        }
        now.holding = scribe.known - 1;
        return now.holding;
    }

    public int told(int what) {
        switch (what) {
            case 0:
                return now.day;
            case 1:
                return held().bind;
            case 2:
                return now.ledger.failing(0, 0);
            case 3:
                return now.ledger.rescue();
            case 4:
                return now.ledger.payments();
            case 5:
                return now.ledger.longestRing();
            case 6:
                return now.ledger.offset();
            case 7:
                return now.ledger.total();
            default:
                return NONE;
        }
    }

    public int pass(int n) {
        if (n < 0 || n > MAX_PASS) {
            return BAD;
        }
        if (now.day + n > MAX_DAY) {
            return STATE;
        }
        now.day += n;
        return now.day;
    }

    // ---- seen, odds

    public int see(int one, int other, int squeeze, int n, int sum) {
        if (one == -1) {
            now.seen.size = 0;
            return 0;
        }
        int refusal = refusedPair(one, other);
        if (refusal != 0) {
            return refusal;
        }
        if (squeeze < 0 || squeeze > MAX_SQUEEZE || n < 0 || n > MAX_SEEN_DAYS || sum < 0 || sum > MAX_READ) {
            return BAD;
        }
        return now.seen.add(one, other, squeeze, n, sum) ? now.seen.size : FULL;
    }

    public int wrong() {
        for (int i = 0; i < now.seen.size; i++) {
            if (!now.seenIsSo(held(), i, at(now.vs, now.seen.cell(i, 0)))) {
                return i;
            }
        }
        return LACKING;
    }

    public int can(int trader, int what) {
        if (!isTrader(trader) || what < 0 || what > 1) {
            return NONE;
        }
        int many = 0;
        int least = LACKING;
        for (int v = MAX_V; v >= 0; v--) {
            if (now.fitsSeen(held(), trader, v)) {
                many++;
                least = v;
            }
        }
        return what == 0 ? many : least;
    }

    public long odds(int part) {
        return partOf(now.ledger.failingAlone(), now.ledger.size, part);
    }

    public long mean(int part) {
        return partOf(now.ledger.allPurses(), now.ledger.size, part);
    }

    // ---- plans, books

    public int plan(int what, int trader) {
        if (what == -1) {
            now.planned.size = 0;
            return 0;
        }
        if (what < PLAN_DAY || what > PLAN_FORGIVES || what != PLAN_DAY && !isTrader(trader)) {
            return NONE;
        }
        return now.planned.add(what, trader, 0, 0, 0) ? now.planned.size : FULL;
    }

    public int ends(int what) {
        if (what < 0 || what > 1) {
            return NONE;
        }
        trial.copyFrom(now.ledger);
        for (int i = 0; i < now.planned.size; i++) {
            trial.follow(now.planned.cell(i, 0), now.planned.cell(i, 1));
        }
        return what == 0 ? trial.total() : trial.failing(0, 0);
    }

    public int book(int one, int other, int debt) {
        if (one == -1) {
            now.booked.size = 0;
            return 0;
        }
        int refusal = refusedPair(one, other);
        if (refusal != 0) {
            return refusal;
        }
        if (debt < 0 || debt > MAX_SUM) {
            return BAD;
        }
        return now.booked.add(one, other, debt, 0, 0) ? now.booked.size : FULL;
    }

    public int looked() {
        for (int i = 0; i < now.booked.size; i++) {
            if (now.ledger.debt(now.booked.cell(i, 0), now.booked.cell(i, 1)) != now.booked.cell(i, 2)) {
                return i;
            }
        }
        return LACKING;
    }

    // ---- judging, the image, acts, tapes

    public int judge(int tape, int i) {
        Tape found = tapeAt(tape);
        if (found == null) {
            return NONE;
        }
        if (found.sort != SORT_NOTHING && found.sort != SORT_INT) {
            return CAST;
        }
        for (int one = 0; one < now.ledger.size; one++) {
            // A place far out must not wrap around to one that the row has.
            if (i < 0 || i >= found.size - one) {
                return ENDED_EARLY + one;
            }
            if (found.get(i + one) != now.ledger.balance(one)) {
                return one;
            }
        }
        return LACKING;
    }

    public int image() {
        kept.copyFrom(now);
        hasImage = true;
        return now.ledger.size;
    }

    public int undo() {
        if (!hasImage) {
            return STATE;
        }
        now.copyFrom(kept);
        return now.ledger.size;
    }

    public int act(int trader, int act, int x) {
        actor.ran = 0;
        if (!isTrader(trader) || act < 0 || act >= ACTS) {
            return 0;
        }
        actor.play(trader, at(now.kinds, trader), at(now.vs, trader));
        return actor.run(actor.kind, act, x, 0);
    }

    public int trace(int i) {
        if (i < 0 || i >= actor.ran || i >= MAX_TRACE) {
            return NONE;
        }
        return at(actor.bodies, i);
    }

    public int taken(int trader, int k) {
        if (k < 0 || k >= KINDS) {
            return BAD;
        }
        if (!isTrader(trader)) {
            return NOTHING;
        }
        int kind = at(now.kinds, trader);
        int above = kind;
        for (int step = 0; step < KINDS && above >= 0; step++) {
            if (above == k) {
                return kind;
            }
            above = at(ABOVE, above);
        }
        return CAST;
    }

    public int count(int what) {
        switch (what) {
            case 0:
                return now.ledger.size;
            case 1:
                return scribe.known;
            case 2:
                return now.seen.size;
            case 3:
                return now.planned.size;
            case 4:
                return now.booked.size;
            case 5:
                return scribe.size;
            case 6:
                return actor.ran;
            default:
                return BAD;
        }
    }

    public int tape(int tape, int sort, int n) {
        Tape found = tapeAt(tape);
        if (found == null) {
            return NONE;
        }
        if (sort == SORT_NOTHING) {
            found.become(SORT_NOTHING, 0);
            return 1;
        }
        if (sort < SORT_BYTE || sort > SORT_BOOLEAN || n > MAX_ITEMS) {
            return BAD;
        }
        if (n < 0) {
            return SIZE;
        }
        found.become(sort, n);
        return 1;
    }

    public int item(int tape, int i, long v) {
        Tape found = tapeAt(tape);
        if (found == null) {
            return NONE;
        }
        if (found.sort == SORT_NOTHING) {
            return NOTHING;
        }
        if (!found.has(i)) {
            return PLACE;
        }
        found.set(i, v);
        return 1;
    }

    public long read(int tape, int i) {
        Tape found = tapeAt(tape);
        if (found == null || !found.has(i)) {
            return NO;
        }
        return found.get(i);
    }

    public int shift(int tape, int i, int other, int j, int n) {
        Tape from = tapeAt(tape);
        Tape to = tapeAt(other);
        if (from == null || to == null) {
            return NONE;
        }
        if (from.sort == SORT_NOTHING || to.sort == SORT_NOTHING) {
            return NOTHING;
        }
        if (from.sort != to.sort) {
            return CAST;
        }
        if (!from.hasRun(i, n) || !to.hasRun(j, n)) {
            return PLACE;
        }
        System.arraycopy(from.items, i, to.items, j, n);
        return n;
    }

    // ---- what the calls share

    private boolean isTrader(int number) {
        return number >= 0 && number < now.ledger.size;
    }

    /** 0 for two traders who are not the same. */
    private int refusedPair(int one, int other) {
        if (!isTrader(one) || !isTrader(other)) {
            return NONE;
        }
        return one == other ? BAD : 0;
    }

    private Exchange held() {
        return scribe.exchangeAt(now.holding);
    }

    private Tape tapeAt(int number) {
        return number >= 0 && number < tapes.length ? tapes[number] : null;
    }

    private static int at(int[] row, int i) {
        return i >= 0 && i < row.length ? row[i] : 0;
    }

    private static void put(int[] row, int i, int n) {
        if (i >= 0 && i < row.length) {
            row[i] = n;
        }
    }

    private static boolean hasBit(int bits, int i) {
        return (bits >> i & 1) != 0;
    }

    private static long partOf(int above, int below, int part) {
        if (part < 0 || part > 1 || below <= 0) {
            return NO;
        }
        int divisor = below;
        int rest = above;
        for (int step = 0; step < 100 && rest != 0; step++) {
            int next = divisor % rest;
            divisor = rest;
            rest = next;
        }
        if (divisor == 0) {
            return NO;
        }
        return part == 0 ? above / divisor : below / divisor;
    }

    /** A bounded list of rows of up to five numbers: what is seen, planned and booked. */
    private static final class Rows {
        private static final int WIDTH = 5;
        private final int[] cells;
        private int size;

        Rows(int limit) {
            cells = new int[Math.max(limit, 0) * WIDTH];
        }

        boolean add(int first, int second, int third, int fourth, int fifth) {
            int place = size * WIDTH;
            if (place < 0 || place > cells.length - WIDTH) {
                return false;
            }
            cells[place] = first;
            cells[place + 1] = second;
            cells[place + 2] = third;
            cells[place + 3] = fourth;
            cells[place + 4] = fifth;
            size++;
            return true;
        }

        int cell(int i, int column) {
            return at(cells, i * WIDTH + column);
        }

        void copyFrom(Rows other) {
            System.arraycopy(other.cells, 0, cells, 0, Math.min(cells.length, other.cells.length));
            size = other.size;
        }
    }

    /** Who has how much and owes how much to whom, and what follows from that alone. */
    private static final class Ledger {
        private final int[] purses = new int[MAX_TRADERS];
        private final int[] debts = new int[MAX_TRADERS * MAX_TRADERS];
        private final int[] mostSets = new int[1 << MAX_TRADERS];
        private int size;

        /** Whole rows: what lies behind the last trader is 0 in both, as a newcomer needs it. */
        void copyFrom(Ledger other) {
            System.arraycopy(other.purses, 0, purses, 0, purses.length);
            System.arraycopy(other.debts, 0, debts, 0, debts.length);
            size = other.size;
        }

        void enter() {
            put(purses, size, FIRST_PURSE);
            size++;
        }

        int debt(int one, int other) {
            return at(debts, one * MAX_TRADERS + other);
        }

        void setDebt(int one, int other, int n) {
            put(debts, one * MAX_TRADERS + other, n);
        }

        int owesAll(int one) {
            int sum = 0;
            for (int other = 0; other < size; other++) {
                sum += debt(one, other);
            }
            return sum;
        }

        /** What those owe one who are not among the failed. */
        int owedBy(int one, int failed) {
            int sum = 0;
            for (int other = 0; other < size; other++) {
                if (!hasBit(failed, other)) {
                    sum += debt(other, one);
                }
            }
            return sum;
        }

        int balance(int one) {
            return owedBy(one, 0) - owesAll(one);
        }

        int total() {
            int sum = 0;
            for (int one = 0; one < size; one++) {
                sum += owesAll(one);
            }
            return sum;
        }

        int offset() {
            int sum = 0;
            for (int one = 0; one < size; one++) {
                for (int other = one + 1; other < size; other++) {
                    sum += Math.abs(debt(one, other) - debt(other, one));
                }
            }
            return sum;
        }

        int allPurses() {
            int sum = 0;
            for (int one = 0; one < size; one++) {
                sum += at(purses, one);
            }
            return sum;
        }

        /** Who fails in the end, if some have failed already and some are rich beyond all debts. */
        int failing(int already, int rich) {
            int failed = already;
            for (int round = 0; round < MAX_TRADERS; round++) {
                int before = failed;
                for (int one = 0; one < size; one++) {
                    int has = hasBit(rich, one) ? RICH_PURSE : at(purses, one);
                    if (cannotPay(one, has, failed)) {
                        failed |= 1 << one;
                    }
                }
                if (failed == before) {
                    break;
                }
            }
            return failed;
        }

        private boolean cannotPay(int one, int purse, int failed) {
            return owesAll(one) > purse + owedBy(one, failed);
        }

        int failingAlone() {
            int many = 0;
            for (int one = 0; one < size; one++) {
                if (failing(1 << one, 0) == 1 << one) {
                    many++;
                }
            }
            return many;
        }

        /**
         * Whoever cannot pay though all others do is saved by no other's purse;
         * and once these are saved, all pay. So the fewest are just these, and no others.
         */
        int rescue() {
            int set = 0;
            for (int one = 0; one < size; one++) {
                if (cannotPay(one, at(purses, one), 0)) {
                    set |= 1 << one;
                }
            }
            return set;
        }

        /** If one does not fail, just those fail who would with one rich: what it lacks then is the gift. */
        int gift(int one) {
            int failed = failing(0, 1 << one);
            int lacks = owesAll(one) - at(purses, one) - owedBy(one, failed);
            return lacks > MAX_SUM ? LACKING : Math.max(lacks, 0);
        }

        /**
         * A set is built trader by trader: each time all so far balance, one more set is closed;
         * so the most sets of a whole come from its best part with one trader less.
         */
        int payments() {
            int sets = 1 << size;
            for (int set = 1; set < sets; set++) {
                int most = 0;
                int sum = 0;
                for (int one = 0; one < size; one++) {
                    if (hasBit(set, one)) {
                        sum += balance(one);
                        most = Math.max(most, at(mostSets, set ^ 1 << one));
                    }
                }
                put(mostSets, set, sum == 0 ? most + 1 : most);
            }
            return size - at(mostSets, sets - 1);
        }

        int longestRing() {
            int best = 0;
            for (int first = 0; first < size; first++) {
                best = Math.max(best, ringFrom(first, first, 1 << first, 1));
            }
            return best;
        }

        /** The first of a ring is its least number, so that each ring is walked but once. */
        private int ringFrom(int first, int last, int walked, int length) {
            int best = length > 1 && debt(last, first) > 0 ? length : 0;
            if (length >= MAX_TRADERS) {
                return best;
            }
            for (int next = first + 1; next < size; next++) {
                if (!hasBit(walked, next) && debt(last, next) > 0) {
                    best = Math.max(best, ringFrom(first, next, walked | 1 << next, length + 1));
                }
            }
            return best;
        }

        /** A row of a plan; a day changes nothing here. */
        void follow(int what, int one) {
            for (int other = 0; other < size; other++) {
                if (what == PLAN_PAYS) {
                    pay(one, other);
                } else if (what == PLAN_FORGIVEN) {
                    setDebt(one, other, 0);
                } else if (what == PLAN_FORGIVES) {
                    setDebt(other, one, 0);
                }
            }
        }

        private void pay(int one, int other) {
            int sum = Math.min(debt(one, other), at(purses, one));
            setDebt(one, other, debt(one, other) - sum);
            put(purses, one, at(purses, one) - sum);
            put(purses, other, Math.min(at(purses, other) + sum, MAX_SUM));
        }
    }

    /** All that the image keeps. */
    private static final class Market {
        private final Ledger ledger = new Ledger();
        private final int[] kinds = new int[MAX_TRADERS];
        private final int[] vs = new int[MAX_TRADERS];
        private final int[] toldRows = new int[MAX_TRADERS * ROW_PARTS];
        private final Rows seen = new Rows(MAX_SEEN);
        private final Rows planned = new Rows(MAX_PLAN);
        private final Rows booked = new Rows(MAX_BOOK);
        private final int[] sums = new int[MAX_SQUEEZE + 1];
        private final Facts facts = new Facts();
        private int day;
        private int holding = -1;

        void copyFrom(Market other) {
            ledger.copyFrom(other.ledger);
            System.arraycopy(other.kinds, 0, kinds, 0, kinds.length);
            System.arraycopy(other.vs, 0, vs, 0, vs.length);
            System.arraycopy(other.toldRows, 0, toldRows, 0, toldRows.length);
            seen.copyFrom(other.seen);
            planned.copyFrom(other.planned);
            booked.copyFrom(other.booked);
            day = other.day;
            holding = other.holding;
        }

        int join(int kind, int v) {
            int number = ledger.size;
            put(kinds, number, kind);
            put(vs, number, v);
            ledger.enter();
            return number;
        }

        int readAs(Exchange held, int one, int other, int squeeze, int on) {
            return readWith(held, one, at(vs, one), other, squeeze, on);
        }

        /** The v is given, for CAN asks by another v than the trader's own. */
        private int readWith(Exchange held, int one, int v, int other, int squeeze, int on) {
            facts.one = one;
            facts.other = other;
            facts.kind = at(kinds, one);
            facts.v = v;
            facts.squeeze = squeeze;
            facts.day = on;
            int sum = heard(held.force(facts));
            return sum < held.bind ? 0 : sum;
        }

        private int heard(int force) {
            switch (facts.kind) {
                case BROKER:
                    return force + 2 * facts.v;
                case GLOVED:
                    return force - force / 6;
                case FRAIL:
                    return force / 2;
                case PORTER:
                    return facts.day % 7 == 6 ? 0 : force + 2 * facts.v;
                case APPRENTICE:
                    return force - force / 6 - facts.v;
                case TOLD:
                    return force / 2 + at(toldRows, facts.one * ROW_PARTS + facts.day % ROW_PARTS);
                default:
                    return force;
            }
        }

        /** Each squeeze is read but once; what is asked of all of them is then asked of their sums. */
        void readAll(Exchange held, int one, int other) {
            for (int squeeze = 0; squeeze < sums.length; squeeze++) {
                sums[squeeze] = readAs(held, one, other, squeeze, day);
            }
        }

        int squeezesFor(int sum) {
            int many = 0;
            for (int squeeze = 0; squeeze < sums.length; squeeze++) {
                if (sums[squeeze] == sum) {
                    many++;
                }
            }
            return many;
        }

        int leastFor(int sum) {
            for (int squeeze = 0; squeeze < sums.length; squeeze++) {
                if (sums[squeeze] == sum) {
                    return squeeze;
                }
            }
            return LACKING;
        }

        int span() {
            int many = 0;
            for (int squeeze = 0; squeeze < sums.length; squeeze++) {
                if (sums[squeeze] != 0 && leastFor(sums[squeeze]) == squeeze) {
                    many++;
                }
            }
            return many;
        }

        boolean seenIsSo(Exchange held, int i, int v) {
            int on = day + seen.cell(i, 3);
            return readWith(held, seen.cell(i, 0), v, seen.cell(i, 1), seen.cell(i, 2), on) == seen.cell(i, 4);
        }

        boolean fitsSeen(Exchange held, int one, int v) {
            for (int i = 0; i < seen.size; i++) {
                if (seen.cell(i, 0) == one && !seenIsSo(held, i, v)) {
                    return false;
                }
            }
            return true;
        }
    }

    /** What the tests of an exchange ask about one squeeze. */
    private static final class Facts {
        private int one;
        private int other;
        private int kind;
        private int v;
        private int squeeze;
        private int day;

        boolean passes(int letter, int sign, int number) {
            int value = valueOf(letter);
            if (sign == '<') {
                return value < number;
            }
            return sign == '=' ? value == number : value > number;
        }

        private int valueOf(int letter) {
            switch (letter) {
                case 'p':
                    return one;
                case 'q':
                    return other;
                case 'k':
                    return kind;
                case 'v':
                    return v;
                case 's':
                    return squeeze / 10;
                default:
                    return day % 10;
            }
        }
    }

    /**
     * An exchange that has been read. The conditions stand in one row of steps, each operator
     * behind what it joins, so that none is read from its text again for every squeeze.
     */
    private static final class Exchange {
        private static final int NOT = -1;
        private static final int AND = -2;
        private static final int OR = -3;
        private final int[] steps = new int[MAX_TEXT];
        private final int[] stops = new int[MAX_CLAUSES];
        private final int[] weights = new int[MAX_CLAUSES];
        private int size;
        private int clauses;
        private int bind = BIND_WITHOUT;

        void clear() {
            size = 0;
            clauses = 0;
            bind = BIND_WITHOUT;
        }

        void addStep(int step) {
            put(steps, size, step);
            size++;
        }

        void addTest(int letter, int sign, int number) {
            put(steps, size, letter << 14 | sign << 7 | number);
            size++;
        }

        /** The steps since the last clause's end are the condition of this one. */
        void endClause(int weight) {
            put(stops, clauses, size);
            put(weights, clauses, weight);
            clauses++;
        }

        int force(Facts facts) {
            int sum = facts.squeeze;
            int from = 0;
            for (int i = 0; i < clauses; i++) {
                int stop = at(stops, i);
                if (holds(from, stop, facts)) {
                    sum += at(weights, i);
                }
                from = stop;
            }
            return sum;
        }

        /** What waits to be joined stands in the bits of one number: there are few, as nests are few deep. */
        private boolean holds(int from, int stop, Facts facts) {
            int waiting = 0;
            for (int i = from; i < stop; i++) {
                int step = at(steps, i);
                int last = waiting & 1;
                if (step == NOT) {
                    waiting ^= 1;
                } else if (step == AND) {
                    waiting = waiting >> 1 & (last | -2);
                } else if (step == OR) {
                    waiting = waiting >> 1 | last;
                } else {
                    boolean passes = facts.passes(step >> 14, step >> 7 & 127, step & 127);
                    waiting = waiting << 1 | (passes ? 1 : 0);
                }
            }
            return (waiting & 1) != 0;
        }
    }

    /** Holds the text and the exchanges read from it. A reading that fails leaves its place at the fault. */
    private static final class Scribe {
        private final int[] text = new int[MAX_TEXT];
        private final Exchange[] exchanges = new Exchange[MAX_EXCHANGES];
        private final Exchange empty = new Exchange();
        private int size;
        private int known;
        private int place;
        private Exchange made = empty;

        Scribe() {
            for (int i = 0; i < exchanges.length; i++) {
                exchanges[i] = new Exchange();
            }
        }

        Exchange exchangeAt(int number) {
            Exchange found = number >= 0 && number < exchanges.length ? exchanges[number] : null;
            return found == null ? empty : found;
        }

        int append(int sign) {
            put(text, size, sign);
            size++;
            return size;
        }

        /** The fault, or -1 if the text is an exchange, which is known then. */
        int close() {
            made = exchangeAt(known);
            made.clear();
            place = 0;
            boolean whole = readClause();
            for (int i = 1; i < MAX_CLAUSES && whole && place < size; i++) {
                whole = take(';') && readClause();
            }
            whole = whole && place == size;
            size = 0;
            if (!whole) {
                return place;
            }
            known++;
            return -1;
        }

        private boolean readClause() {
            int first = next();
            String word = first == 'f' ? "firm" : first == 'l' ? "limp" : "bind";
            for (int i = 0; i < word.length(); i++) {
                if (!take(word.charAt(i))) {
                    return false;
                }
            }
            if (!take(' ')) {
                return false;
            }
            int n = readNumber();
            if (n < 0) {
                return false;
            }
            if (first == 'b') {
                made.bind = n;
                return true;
            }
            if (!take(' ') || !readCondition(0)) {
                return false;
            }
            made.endClause(first == 'f' ? n : -n);
            return true;
        }

        /** An AND joins at once what an OR still waits for: so & binds closer than |. */
        private boolean readCondition(int depth) {
            if (!readFactor(depth)) {
                return false;
            }
            boolean orWaits = false;
            for (int i = 0; i < MAX_TEXT; i++) {
                if (take('&')) {
                    if (!readFactor(depth)) {
                        return false;
                    }
                    made.addStep(Exchange.AND);
                    continue;
                }
                if (orWaits) {
                    made.addStep(Exchange.OR);
                }
                if (!take('|')) {
                    return true;
                }
                if (!readFactor(depth)) {
                    return false;
                }
                orWaits = true;
            }
            return false;
        }

        /** The depth is how many ( and ! are open around. */
        private boolean readFactor(int depth) {
            if (depth < MAX_NEST) {
                if (take('!')) {
                    if (!readFactor(depth + 1)) {
                        return false;
                    }
                    made.addStep(Exchange.NOT);
                    return true;
                }
                if (take('(')) {
                    return readCondition(depth + 1) && take(')');
                }
            }
            return readTest();
        }

        private boolean readTest() {
            int letter = next();
            if (!(take('p') || take('q') || take('k') || take('v') || take('s') || take('d'))) {
                return false;
            }
            int sign = next();
            if (!(take('<') || take('=') || take('>'))) {
                return false;
            }
            int number = readNumber();
            if (number < 0) {
                return false;
            }
            made.addTest(letter, sign, number);
            return true;
        }

        /** One digit or two; -1 without any. */
        private int readNumber() {
            int number = -1;
            for (int i = 0; i < 2; i++) {
                int sign = next();
                if (sign < '0' || sign > '9') {
                    return number;
                }
                number = Math.max(number, 0) * 10 + sign - '0';
                place++;
            }
            return number;
        }

        private int next() {
            return place >= 0 && place < size && place < text.length ? text[place] : -1;
        }

        private boolean take(int sign) {
            if (next() != sign) {
                return false;
            }
            place++;
            return true;
        }
    }

    /** Runs acts: a kind's own body, or that of the next kind above that has one. */
    private static final class Actor {
        private final int[] bodies = new int[MAX_TRACE];
        private int ran;
        private int number;
        private int kind;
        private int v;

        void play(int itsNumber, int itsKind, int itsV) {
            number = itsNumber;
            kind = itsKind;
            v = itsV;
        }

        /** From a kind on upwards: the trader's own kind, or by super the one above a body's. */
        private int run(int from, int act, int x, int depth) {
            int owner = ownerOf(from, act);
            if (owner < 0 || depth >= MAX_ACT_DEPTH) {
                return 0;
            }
            int body = at(BODIES, owner * ACTS + act);
            put(bodies, ran, body);
            ran++;
            int above = at(ABOVE, owner);
            int deeper = depth + 1;
            switch (body) {
                case 10:
                    return x + number;
                case 11:
                    return run(kind, GRIPS, x, deeper) - v;
                case 12:
                    return run(kind, LETS, x, deeper) * 2;
                case 20:
                    return run(above, LETS, x, deeper) ^ 6;
                case 30:
                    return run(above, GRIPS, x * 3, deeper);
                case 40:
                    return run(above, TELLS, x, deeper) + run(kind, LETS, 1, deeper);
                case 50:
                    return -run(above, GRIPS, x, deeper);
                case 51:
                    return run(above, LETS, x + 1, deeper);
                case 60:
                    return run(above, TELLS, x - number, deeper);
                case 70:
                    return run(above, LETS, x, deeper) + run(above, GRIPS, 2, deeper);
                case 71:
                    return run(above, GRIPS, x, deeper) ^ v;
                default:
                    return 0;
            }
        }

        private static int ownerOf(int from, int act) {
            int owner = from;
            for (int step = 0; step < KINDS && owner >= 0; step++) {
                if (at(BODIES, owner * ACTS + act) != 0) {
                    return owner;
                }
                owner = at(ABOVE, owner);
            }
            return -1;
        }
    }

    /** A row of up to 60 items of one sort; each is kept as the long that it reads as. */
    private static final class Tape {
        private final long[] items = new long[MAX_ITEMS];
        private int sort = SORT_NOTHING;
        private int size;

        void become(int itsSort, int n) {
            sort = itsSort;
            size = Math.max(0, Math.min(n, items.length));
            for (int i = 0; i < items.length; i++) {
                items[i] = 0;
            }
        }

        boolean has(int i) {
            return i >= 0 && i < size && i < items.length;
        }

        /** No sum is made of place and length, which could wrap around. */
        boolean hasRun(int i, int n) {
            return n >= 0 && i >= 0 && n <= size && i <= size - n;
        }

        long get(int i) {
            return has(i) ? items[i] : 0;
        }

        void set(int i, long v) {
            if (has(i)) {
                items[i] = cut(v);
            }
        }

        private long cut(long v) {
            switch (sort) {
                case SORT_BYTE:
                    return (byte) v;
                case SORT_SHORT:
                    return (short) v;
                case SORT_INT:
                    return (int) v;
                case SORT_BOOLEAN:
                    return v != 0 ? 1 : 0;
                default:
                    return v;
            }
        }
    }
}
