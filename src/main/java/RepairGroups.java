/**
 * Three stripes of coded shards on twelve nodes, which are lost, damaged and put together again
 * from as few other shards as the code allows. The words used here (row, group, plan, reject,
 * crossing) are those of the document's section "Terms".
 */
public final class RepairGroups {
    private static final int LOCAL = 1;
    private static final int WOVEN = 2;

    private static final int STRIPES = 3;
    private static final int NODES = 12;
    private static final int NODES_IN_RACK = 3;
    private static final int DATA = 6;
    private static final int SHARD_BITS = 64;

    private static final int READS = 0;
    private static final int WRITES = 1;
    private static final int CROSSINGS = 2;
    private static final int PLANS = 3;
    private static final int COUNTERS = 4;

    private static final int NO_SUCH = -1;
    private static final int IN_WRONG_STATE = -2;
    private static final int WAS_REJECTED = -3;
    private static final int NODE_IS_DOWN = -3;
    private static final int HAS_NO_PLAN = -4;

    private static final int NO_SHARD = -1;
    private static final int EMPTY_PLAN = 0;

    // Every plan but the last one loses a shard, and a stripe has eleven at most.
    private static final int MOST_PLANS = 32;
    // Every try of mend writes a shard or loses one, and what it wrote is not lost again.
    private static final int MOST_TRIES = 64;

    private final Code code;
    private final Span span;
    private final Stripe[] stripes;
    private final boolean[] nodeUp;
    private final int[] counters;
    private long latestFetched;
    private long rebuilt;

    public RepairGroups(int kind) {
        code = new Code(kind);
        span = new Span();
        stripes = new Stripe[STRIPES];
        for (int s = 0; s < STRIPES; s++) {
            stripes[s] = new Stripe(s, code.shards);
        }
        nodeUp = new boolean[NODES];
        for (int x = 0; x < NODES; x++) {
            nodeUp[x] = true;
        }
        counters = new int[COUNTERS];
    }

    public int put(int s, int i, long v) {
        if (!isStripe(s) || i < 0 || i >= DATA) {
            return NO_SUCH;
        }
        Stripe stripe = stripes[s];
        if (!stripe.isThere(i)) {
            return IN_WRONG_STATE;
        }
        if (!readShard(stripe, i)) {
            return WAS_REJECTED;
        }
        int updated = updateCoded(stripe, i, stripe.held(i) ^ v);
        writeShard(stripe, i, v);
        return updated;
    }

    public int fetch(int s, int i) {
        if (!isShard(s, i)) {
            return NO_SUCH;
        }
        Stripe stripe = stripes[s];
        if (stripe.isThere(i) && readShard(stripe, i)) {
            latestFetched = stripe.held(i);
            return 0;
        }
        int chosen = followPlans(stripe, i);
        if (chosen >= 0) {
            latestFetched = rebuilt;
        }
        return chosen;
    }

    public long fetched() {
        return latestFetched;
    }

    public int fail(int x) {
        if (!isNode(x)) {
            return NO_SUCH;
        }
        if (!nodeUp[x]) {
            return IN_WRONG_STATE;
        }
        nodeUp[x] = false;
        int dropped = 0;
        for (int s = 0; s < STRIPES; s++) {
            dropped += dropShardsOn(stripes[s], x);
        }
        return dropped;
    }

    public boolean revive(int x) {
        if (!isNode(x) || nodeUp[x]) {
            return false;
        }
        nodeUp[x] = true;
        return true;
    }

    public boolean damage(int s, int i, int b) {
        if (!isShard(s, i) || b < 0 || b >= SHARD_BITS || !stripes[s].isThere(i)) {
            return false;
        }
        stripes[s].flip(i, b);
        return true;
    }

    public int repair(int s, int i) {
        if (!isShard(s, i)) {
            return NO_SUCH;
        }
        Stripe stripe = stripes[s];
        if (stripe.isThere(i)) {
            return IN_WRONG_STATE;
        }
        if (!nodeUp[stripe.nodeOf(i)]) {
            return NODE_IS_DOWN;
        }
        return rebuild(stripe, i);
    }

    public int mend(int s) {
        if (!isStripe(s)) {
            return NO_SUCH;
        }
        Stripe stripe = stripes[s];
        int mended = 0;
        for (int tries = 0; tries < MOST_TRIES; tries++) {
            int i = nextToMend(stripe);
            if (i == NO_SHARD) {
                break;
            }
            if (rebuild(stripe, i) >= 0) {
                mended++;
            }
        }
        return mended;
    }

    public int scrub(int s) {
        if (!isStripe(s)) {
            return NO_SUCH;
        }
        Stripe stripe = stripes[s];
        int rejected = 0;
        for (int i = 0; i < code.shards; i++) {
            if (stripe.isThere(i) && !readShard(stripe, i)) {
                rejected++;
            }
        }
        return rejected;
    }

    public int cost(int s, int i) {
        if (!isShard(s, i)) {
            return NO_SUCH;
        }
        if (stripes[s].isThere(i)) {
            return 0;
        }
        int plan = choosePlan(stripes[s], i);
        return plan == EMPTY_PLAN ? HAS_NO_PLAN : Integer.bitCount(plan);
    }

    public int rank(int s) {
        if (!isStripe(s)) {
            return NO_SUCH;
        }
        return Integer.bitCount(independentShards(stripes[s]));
    }

    public int lost(int s) {
        return isStripe(s) ? stripes[s].lostMask() : NO_SUCH;
    }

    public long content(int s, int i) {
        return isShard(s, i) && stripes[s].isThere(i) ? stripes[s].held(i) : 0L;
    }

    public int node(int s, int i) {
        return isShard(s, i) ? stripes[s].nodeOf(i) : NO_SUCH;
    }

    public boolean up(int x) {
        return isNode(x) && nodeUp[x];
    }

    public int count(int which) {
        return which >= 0 && which < COUNTERS ? counters[which] : NO_SUCH;
    }

    public int size() {
        return code.shards;
    }

    private static boolean isStripe(int s) {
        return s >= 0 && s < STRIPES;
    }

    private boolean isShard(int s, int i) {
        return isStripe(s) && i >= 0 && i < code.shards;
    }

    private static boolean isNode(int x) {
        return x >= 0 && x < NODES;
    }

    /** Answers whether the shard, which is there, was not rejected. */
    private boolean readShard(Stripe stripe, int i) {
        counters[READS]++;
        if (stripe.isDamaged(i)) {
            stripe.lose(i);
            return false;
        }
        return true;
    }

    private boolean readShardFor(Stripe stripe, int i, int reader) {
        int rack = stripe.nodeOf(i) / NODES_IN_RACK;
        if (rack != stripe.nodeOf(reader) / NODES_IN_RACK) {
            counters[CROSSINGS]++;
        }
        return readShard(stripe, i);
    }

    private void writeShard(Stripe stripe, int i, long v) {
        counters[WRITES]++;
        stripe.store(i, v);
    }

    /** Carries a change of data shard i into the shards that are made from it. */
    private int updateCoded(Stripe stripe, int i, long change) {
        int updated = 0;
        for (int j = DATA; j < code.shards; j++) {
            int factor = Bytes.at(code.rows[j], i);
            if (factor != 0 && stripe.isThere(j) && readShardFor(stripe, j, i)) {
                writeShard(stripe, j, stripe.held(j) ^ Bytes.times(factor, change));
                updated++;
            }
        }
        return updated;
    }

    private int dropShardsOn(Stripe stripe, int x) {
        int dropped = 0;
        for (int i = 0; i < code.shards; i++) {
            if (stripe.nodeOf(i) == x && stripe.isThere(i)) {
                stripe.lose(i);
                dropped++;
            }
        }
        return dropped;
    }

    private int rebuild(Stripe stripe, int i) {
        int chosen = followPlans(stripe, i);
        if (chosen >= 0) {
            writeShard(stripe, i, rebuilt);
        }
        return chosen;
    }

    /** Answers how many plans were chosen, and leaves the content of shard i in rebuilt. */
    private int followPlans(Stripe stripe, int i) {
        for (int chosen = 1; chosen <= MOST_PLANS; chosen++) {
            int plan = choosePlan(stripe, i);
            if (plan == EMPTY_PLAN) {
                break;
            }
            counters[PLANS]++;
            if (readPlan(stripe, plan, i)) {
                rebuilt = decode(stripe, plan, i);
                return chosen;
            }
        }
        return HAS_NO_PLAN;
    }

    private boolean readPlan(Stripe stripe, int plan, int reader) {
        for (int i = 0; i < code.shards; i++) {
            if (isIn(plan, i) && !readShardFor(stripe, i, reader)) {
                return false;
            }
        }
        return true;
    }

    private long decode(Stripe stripe, int plan, int i) {
        span.clear();
        for (int j = 0; j < code.shards; j++) {
            if (isIn(plan, j)) {
                span.take(code.rows[j], stripe.held(j));
            }
        }
        return span.valueOf(code.rows[i]);
    }

    /** Plans are sets of shards, one bit each. */
    private int choosePlan(Stripe stripe, int i) {
        int plan = localPlan(stripe, i);
        return plan == EMPTY_PLAN ? globalPlan(independentShards(stripe)) : plan;
    }

    private int localPlan(Stripe stripe, int i) {
        int others = code.groupOf(i) & ~(1 << i);
        return (others & stripe.lostMask()) == 0 ? others : EMPTY_PLAN;
    }

    /** The same for every lost shard of a stripe, as it depends only on those that are there. */
    private static int globalPlan(int independent) {
        return Integer.bitCount(independent) == DATA ? independent : EMPTY_PLAN;
    }

    /** No row is independent of six that are, so at most six are taken. */
    private int independentShards(Stripe stripe) {
        span.clear();
        int taken = 0;
        for (int i = 0; i < code.shards; i++) {
            if (stripe.isThere(i) && span.take(code.rows[i], 0L)) {
                taken |= 1 << i;
            }
        }
        return taken;
    }

    private int nextToMend(Stripe stripe) {
        int least = NO_SHARD;
        for (int i = code.shards - 1; i >= 0; i--) {
            if (canBeWritten(stripe, i)) {
                least = i;
            }
        }
        for (int i = 0; i < code.shards; i++) {
            if (canBeWritten(stripe, i) && localPlan(stripe, i) != EMPTY_PLAN) {
                return i;
            }
        }
        return globalPlan(independentShards(stripe)) == EMPTY_PLAN ? NO_SHARD : least;
    }

    private boolean canBeWritten(Stripe stripe, int i) {
        return !stripe.isThere(i) && nodeUp[stripe.nodeOf(i)];
    }

    private static boolean isIn(int set, int i) {
        return ((set >> i) & 1) != 0;
    }

    /** Bytes, and longs as rows of bytes: a shard has eight of them, a row of the code six. */
    private static final class Bytes {
        private static final int BITS = 8;
        private static final int MASK = 255;
        private static final long LOW_BITS = 0x0101010101010101L;
        // x^8 is x^4 + x^3 + x^2 + 1 by the document's polynomial.
        private static final long OVERFLOW = 0x1DL;

        static int at(long bytes, int place) {
            return (int) (bytes >>> (BITS * place)) & MASK;
        }

        static long placed(int value, int place) {
            return (long) value << (BITS * place);
        }

        /** The product of the factor and each of the bytes. */
        static long times(int factor, long bytes) {
            long sum = 0L;
            long shifted = bytes;
            for (int bit = 0; bit < BITS; bit++) {
                if (((factor >> bit) & 1) != 0) {
                    sum ^= shifted;
                }
                long highBits = (shifted >>> (BITS - 1)) & LOW_BITS;
                long lowRest = shifted & ~(LOW_BITS << (BITS - 1));
                shifted = (lowRest << 1) ^ (highBits * OVERFLOW);
            }
            return sum;
        }

        /** The power 254, as the power 255 of every byte but 0 is 1; 0 for 0. */
        static int inverse(int value) {
            int power = value;
            int product = 1;
            for (int bit = 1; bit < BITS; bit++) {
                power = (int) times(power, power);
                product = (int) times(product, power);
            }
            return product;
        }
    }

    /** The rows and groups of one kind of code. */
    private static final class Code {
        private static final int PLAIN_SHARDS = 10;
        private static final int WOVEN_SHARDS = 11;
        private static final int FIRST_POINT = 8;
        private static final long FIRST_HALF = 0x000000010101L;
        private static final long SECOND_HALF = 0x010101000000L;
        private static final int FIRST_GROUP = 1 << 0 | 1 << 1 | 1 << 2 | 1 << 6;
        private static final int SECOND_GROUP = 1 << 3 | 1 << 4 | 1 << 5 | 1 << 7;
        private static final int WOVEN_GROUP = 1 << 8 | 1 << 9 | 1 << 10;

        private final int shards;
        private final long[] rows;
        private final boolean grouped;

        Code(int kind) {
            shards = kind == WOVEN ? WOVEN_SHARDS : PLAIN_SHARDS;
            grouped = kind == LOCAL || kind == WOVEN;
            rows = new long[shards];
            for (int i = 0; i < shards; i++) {
                rows[i] = grouped ? groupedRow(i) : plainRow(i);
            }
        }

        private static long plainRow(int i) {
            return i < DATA ? Bytes.placed(1, i) : inversesRow(FIRST_POINT + i - DATA);
        }

        /** The rows of LOCAL, and of WOVEN, which has one shard more. */
        private static long groupedRow(int i) {
            if (i < DATA) {
                return Bytes.placed(1, i);
            }
            switch (i) {
                case 6:
                    return FIRST_HALF;
                case 7:
                    return SECOND_HALF;
                case 8:
                    return inversesRow(FIRST_POINT);
                case 9:
                    return inversesRow(FIRST_POINT + 1);
                default:
                    return inversesRow(FIRST_POINT) ^ inversesRow(FIRST_POINT + 1);
            }
        }

        private static long inversesRow(int point) {
            long row = 0L;
            for (int place = 0; place < DATA; place++) {
                row |= Bytes.placed(Bytes.inverse(point ^ place), place);
            }
            return row;
        }

        /** The group that shard i is in, one bit for each shard; 0 when it is in none. */
        int groupOf(int i) {
            if (!grouped) {
                return 0;
            }
            if (isIn(FIRST_GROUP, i)) {
                return FIRST_GROUP;
            }
            if (isIn(SECOND_GROUP, i)) {
                return SECOND_GROUP;
            }
            return shards == WOVEN_SHARDS ? WOVEN_GROUP : 0;
        }
    }

    /** Rows that do not depend on one another, each with the content that a shard of this row has. */
    private static final class Span {
        // At each place the row whose first byte other than 0 stands there and is 1; 0 for none.
        private final long[] rows = new long[DATA];
        private final long[] values = new long[DATA];

        void clear() {
            for (int place = 0; place < DATA; place++) {
                rows[place] = 0L;
                values[place] = 0L;
            }
        }

        /** Answers false, and keeps nothing, when the row follows from those taken before. */
        boolean take(long row, long value) {
            long restRow = row;
            long restValue = value;
            for (int place = 0; place < DATA; place++) {
                int first = Bytes.at(restRow, place);
                if (first != 0 && rows[place] == 0L) {
                    int scale = Bytes.inverse(first);
                    rows[place] = Bytes.times(scale, restRow);
                    values[place] = Bytes.times(scale, restValue);
                    return true;
                }
                restRow ^= Bytes.times(first, rows[place]);
                restValue ^= Bytes.times(first, values[place]);
            }
            return false;
        }

        /** The content of a shard whose row follows from those taken. */
        long valueOf(long row) {
            long restRow = row;
            long value = 0L;
            for (int place = 0; place < DATA; place++) {
                int first = Bytes.at(restRow, place);
                restRow ^= Bytes.times(first, rows[place]);
                value ^= Bytes.times(first, values[place]);
            }
            return value;
        }
    }

    /** The shards of one stripe as they lie on their nodes. */
    private static final class Stripe {
        private static final int NODES_BETWEEN = 5;

        private final int firstNode;
        private final int all;
        private final long[] written;
        // Damage is kept apart from what was written, so that undoing it leaves no trace.
        private final long[] flipped;
        private int there;

        Stripe(int number, int shards) {
            firstNode = NODES_BETWEEN * number;
            all = (1 << shards) - 1;
            written = new long[shards];
            flipped = new long[shards];
            there = all;
        }

        int nodeOf(int i) {
            return (firstNode + i) % NODES;
        }

        boolean isThere(int i) {
            return isIn(there, i);
        }

        int lostMask() {
            return all & ~there;
        }

        boolean isDamaged(int i) {
            return flipped[i] != 0L;
        }

        long held(int i) {
            return written[i] ^ flipped[i];
        }

        void flip(int i, int b) {
            flipped[i] ^= 1L << b;
        }

        void lose(int i) {
            there &= ~(1 << i);
        }

        void store(int i, long v) {
            written[i] = v;
            flipped[i] = 0L;
            there |= 1 << i;
        }
    }
}
