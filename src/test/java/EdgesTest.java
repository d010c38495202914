/**
 * One test for each sentence of the document that names a boundary case, told by the sentence's own
 * words. For a refused call it also shows that the call changed nothing: an object that was asked it
 * answers ever after like a twin that was not.
 */
public final class EdgesTest {
    private static final int PLAIN = 0;
    private static final int LOCAL = 1;
    private static final int WOVEN = 2;
    private static final int[] KINDS = {PLAIN, LOCAL, WOVEN};

    private static final int LEAST = Integer.MIN_VALUE;
    private static final int MOST = Integer.MAX_VALUE;
    // The numbers next to the edge, the outermost ones, and ones that look right in their low bits.
    private static final int[] NO_STRIPES = {-1, 3, 4, 256, 1 << 16, LEAST, LEAST + 1, MOST};
    private static final int[] NO_NODES = {-1, 12, 13, 256, 1 << 16, LEAST, LEAST + 1, MOST};
    private static final int[] NO_BITS = {-1, 64, 65, -64, 128, 256, LEAST, LEAST + 1, MOST};
    private static final int[] NO_COUNTS = {-1, 4, 5, 256, 1 << 16, LEAST, LEAST + 1, MOST};
    private static final int[] OTHER_KINDS = {0, 3, 4, -1, -2, 257, 258, 1 << 16 | 1, LEAST | 1, LEAST | 2, LEAST, MOST};

    private static final int[][] NODE = {
        {0, 1, 2, 3, 4, 5, 6, 7, 8, 9, 10},
        {5, 6, 7, 8, 9, 10, 11, 0, 1, 2, 3},
        {10, 11, 0, 1, 2, 3, 4, 5, 6, 7, 8},
    };
    private static final int[] RACK = {0, 0, 0, 1, 1, 1, 2, 2, 2, 3, 3, 3};
    // The inverses of 8 .. 15, worked out by another program.
    private static final int[] INVERSE_FROM_8 = {173, 157, 221, 152, 61, 170, 93, 150};
    private static final int[] FIRST_GROUP = {0, 1, 2, 6};
    private static final int[] SECOND_GROUP = {3, 4, 5, 7};
    private static final int[] WOVEN_GROUP = {8, 9, 10};

    private static final long SOME_BYTES = 0x8001FF1D7F02A503L;

    private static int wrong = 0;
    private static int sentences = 0;
    private static String sentence = "";

    private interface Call {
        long on(RepairGroups x);
    }

    private interface Scene {
        RepairGroups made();
    }

    private static void test(String promise, String words, Runnable body) {
        sentences++;
        sentence = promise + ", \"" + words + "\"";
        try {
            body.run();
        } catch (RuntimeException e) {
            wrong++;
            System.out.println(sentence + ": threw " + e);
        }
    }

    private static void due(String call, long got, long want) {
        if (got != want) {
            wrong++;
            System.out.println(sentence + ": " + call + " answered " + got + ", due is " + want);
        }
    }

    private static void due(String call, boolean got, boolean want) {
        due(call, number(got), number(want));
    }

    private static long number(boolean answer) {
        return answer ? 1 : 0;
    }

    private static void dueCounts(String when, RepairGroups x, int reads, int writes, int crossings, int plans) {
        due(when + ", count(0)", x.count(0), reads);
        due(when + ", count(1)", x.count(1), writes);
        due(when + ", count(2)", x.count(2), crossings);
        due(when + ", count(3)", x.count(3), plans);
    }

    private static int shardsOf(int kind) {
        return kind == WOVEN ? 11 : 10;
    }

    private static int[] noShardsOf(int kind) {
        int n = shardsOf(kind);
        return new int[] {-1, n, n + 1, 12, 31, 32, 256, 1 << 16, LEAST, LEAST + 1, MOST};
    }

    // ---- What the code says, worked out apart from the class.

    private static int product(int a, int b) {
        int rest = b;
        int shifted = a;
        int sum = 0;
        while (rest != 0) {
            sum ^= (rest & 1) != 0 ? shifted : 0;
            shifted = shifted < 128 ? shifted << 1 : (shifted << 1) ^ 0x11D;
            rest >>= 1;
        }
        return sum;
    }

    private static long multiple(int a, long shard) {
        long answer = 0;
        for (int j = 0; j < 8; j++) {
            answer |= (long) product(a, (int) (shard >>> 8 * j) & 255) << 8 * j;
        }
        return answer;
    }

    private static int rowByte(int kind, int i, int place) {
        if (i < 6) {
            return i == place ? 1 : 0;
        }
        if (kind == PLAIN) {
            return INVERSE_FROM_8[(i + 2 ^ place) - 8];
        }
        if (i < 8) {
            return place / 3 == i - 6 ? 1 : 0;
        }
        return i == 10 ? rowByte(kind, 8, place) ^ rowByte(kind, 9, place) : INVERSE_FROM_8[(i ^ place) - 8];
    }

    private static long dataOf(int s, int i) {
        return SOME_BYTES * (2 * i + 1) + 77777777777L * s;
    }

    private static long codeSays(int kind, int s, int i) {
        long sum = 0;
        for (int place = 0; place < 6; place++) {
            sum ^= multiple(rowByte(kind, i, place), dataOf(s, place));
        }
        return sum;
    }

    // ---- Objects to begin with.

    private static RepairGroups filled(int kind) {
        RepairGroups x = new RepairGroups(kind);
        for (int s = 0; s < 3; s++) {
            for (int i = 0; i < 6; i++) {
                x.put(s, i, dataOf(s, i));
            }
        }
        return x;
    }

    /** Of everything something: shards lost with their node down or up, shards damaged, one fetched. */
    private static RepairGroups busy(int kind) {
        RepairGroups x = filled(kind);
        x.fetch(1, 5);
        x.damage(0, 3, 63);
        x.damage(1, 4, 0);
        x.damage(2, 6, 31);
        x.damage(2, 0, 5);
        x.damage(2, 0, 5);
        x.fail(2);
        x.fail(7);
        x.revive(7);
        x.fail(9);
        return x;
    }

    /** Loses what lies on these nodes; they are up again. In stripe 0, shard i lies on node i. */
    private static void wipe(RepairGroups x, int... nodes) {
        for (int node : nodes) {
            x.fail(node);
            x.revive(node);
        }
    }

    private static RepairGroups wiped(int kind, int... nodes) {
        RepairGroups x = filled(kind);
        wipe(x, nodes);
        return x;
    }

    private static RepairGroups newWiped(int kind, int... nodes) {
        RepairGroups x = new RepairGroups(kind);
        wipe(x, nodes);
        return x;
    }

    /** All shards of stripe 0 but these are lost; the nodes are up. */
    private static RepairGroups leftWith(int kind, int... shards) {
        RepairGroups x = filled(kind);
        for (int i = 0; i < shardsOf(kind); i++) {
            if (!isAmong(shards, i)) {
                wipe(x, i);
            }
        }
        return x;
    }

    private static boolean isAmong(int[] shards, int i) {
        for (int shard : shards) {
            if (shard == i) {
                return true;
            }
        }
        return false;
    }

    private static void damageAll(RepairGroups x, int s, int... shards) {
        for (int i : shards) {
            x.damage(s, i, 8 * (i % 8));
        }
    }

    private static RepairGroups withAllDown(int kind) {
        RepairGroups x = filled(kind);
        for (int node = 0; node < 12; node++) {
            x.fail(node);
        }
        return x;
    }

    private static RepairGroups withAllWiped(int kind) {
        RepairGroups x = withAllDown(kind);
        for (int node = 0; node < 12; node++) {
            x.revive(node);
        }
        return x;
    }

    // ---- That nothing was changed.

    private static StringBuilder seen(RepairGroups x) {
        StringBuilder all = new StringBuilder();
        for (int s = 0; s < 3; s++) {
            all.append("lost ").append(x.lost(s)).append(" rank ").append(x.rank(s));
            for (int i = 0; i < x.size(); i++) {
                all.append(" content ").append(x.content(s, i)).append(" cost ").append(x.cost(s, i));
                all.append(" node ").append(x.node(s, i));
            }
        }
        for (int node = 0; node < 12; node++) {
            all.append(" up ").append(x.up(node));
        }
        for (int which = 0; which < 4; which++) {
            all.append(" count ").append(x.count(which));
        }
        return all.append(" fetched ").append(x.fetched()).append(" size ").append(x.size());
    }

    /** What later calls bring to light: which shards are damaged, and what was written to them. */
    private static StringBuilder broughtToLight(RepairGroups x) {
        StringBuilder all = new StringBuilder();
        for (int s = 0; s < 3; s++) {
            all.append(" put ").append(x.put(s, s, SOME_BYTES));
            for (int i = 0; i < x.size(); i++) {
                all.append(" fetch ").append(x.fetch(s, i)).append(" fetched ").append(x.fetched());
            }
            all.append(" mend ").append(x.mend(s)).append(" scrub ").append(x.scrub(s));
            all.append(" lost ").append(x.lost(s));
        }
        for (int which = 0; which < 4; which++) {
            all.append(" count ").append(x.count(which));
        }
        return all;
    }

    private static void dueSame(String call, RepairGroups x, RepairGroups twin) {
        String[] of = {seen(x).toString(), seen(twin).toString()};
        if (of[0].equals(of[1])) {
            of[0] = broughtToLight(x).toString();
            of[1] = broughtToLight(twin).toString();
        }
        if (!of[0].equals(of[1])) {
            wrong++;
            System.out.println(sentence + ": " + call + " changed something");
            System.out.println("    with it:    " + of[0]);
            System.out.println("    without it: " + of[1]);
        }
    }

    private static void dueAndSame(String call, Scene scene, Call asked, long want) {
        RepairGroups x = scene.made();
        RepairGroups twin = scene.made();
        due(call, asked.on(x), want);
        dueSame(call, x, twin);
    }

    /** The call is refused, and changes nothing, in a new object and in a busy one of each kind. */
    private static void dueRefused(String call, Call asked, long want) {
        for (int kind : KINDS) {
            dueRefusedOf(kind, call, asked, want);
        }
    }

    private static void dueRefusedOf(int kind, String call, Call asked, long want) {
        dueAndSame(call + " of a new object of kind " + kind, () -> new RepairGroups(kind), asked, want);
        dueAndSame(call + " of a busy object of kind " + kind, () -> busy(kind), asked, want);
    }

    // ---- What it is

    private static void the512thCall() {
        RepairGroups x = new RepairGroups(PLAIN);
        for (int call = 1; call <= 507; call++) {
            due("call " + call + ", put", x.put(call % 3, call % 6, SOME_BYTES * call), 4);
        }
        due("call 508", x.count(0), 507 * 5);
        due("call 509", x.count(1), 507 * 5);
        due("call 510", x.lost(0), 0);
        due("call 511", x.fetch(507 % 3, 507 % 6), 0);
        due("call 512", x.fetched(), SOME_BYTES * 507);
        RepairGroups y = new RepairGroups(WOVEN);
        for (int call = 1; call <= 508; call += 4) {
            y.fail(0);
            y.revive(0);
            due("call " + (call + 2) + ", repair", y.repair(0, 0), 1);
            due("call " + (call + 3) + ", repair", y.repair(0, 0), -2);
        }
        due("call 509", y.count(0), 127 * 3);
        due("call 510", y.count(1), 127);
        due("call 511", y.count(2), 127);
        due("call 512", y.count(3), 127);
    }

    // ---- Terms

    private static void productIsReduced() {
        for (int place = 0; place < 6; place++) {
            for (int high = 0; high < 256; high += 8) {
                long v = 0;
                for (int j = 0; j < 8; j++) {
                    v |= (long) (high + j) << 8 * j;
                }
                for (int kind : KINDS) {
                    RepairGroups x = new RepairGroups(kind);
                    x.put(0, place, v);
                    for (int i = 6; i < shardsOf(kind); i++) {
                        String call = "kind " + kind + ", put(0, " + place + ", " + v + "), content(0, " + i + ")";
                        due(call, x.content(0, i), multiple(rowByte(kind, i, place), v));
                    }
                }
            }
        }
        due("128 times 2, as the test reckons", product(128, 2), 0x1D);
    }

    private static void bytesStayApart() {
        for (int j = 0; j < 8; j++) {
            RepairGroups x = new RepairGroups(PLAIN);
            x.put(2, 3, 0x80L << 8 * j);
            for (int i = 6; i < 10; i++) {
                due("byte " + j + ", shard " + i, x.content(2, i) & ~(0xFFL << 8 * j), 0);
                due("byte " + j + ", shard " + i, x.content(2, i) != 0, true);
            }
        }
    }

    private static void stripesAreApart() {
        for (int s = 0; s < 3; s++) {
            RepairGroups x = new RepairGroups(WOVEN);
            x.put(s, 0, -1L);
            x.damage(s, 1, 0);
            x.scrub(s);
            for (int other = 0; other < 3; other++) {
                due("lost(" + other + ") after scrub(" + s + ")", x.lost(other), other == s ? 2 : 0);
                due("content(" + other + ", 0) after put(" + s + ", 0)", x.content(other, 0), other == s ? -1L : 0);
                due("content(" + other + ", 8) after put(" + s + ", 0)", x.content(other, 8) != 0, other == s);
            }
        }
    }

    private static void groupsRowsAddUpToNothing() {
        for (int kind = LOCAL; kind <= WOVEN; kind++) {
            RepairGroups x = filled(kind);
            due("sum of 0, 1, 2, 6", sumOf(x, FIRST_GROUP), 0);
            due("sum of 3, 4, 5, 7", sumOf(x, SECOND_GROUP), 0);
            if (kind == WOVEN) {
                due("sum of 8, 9, 10", sumOf(x, WOVEN_GROUP), 0);
            }
        }
    }

    private static long sumOf(RepairGroups x, int[] group) {
        long sum = 0;
        for (int i : group) {
            sum ^= x.content(1, i);
        }
        return sum;
    }

    private static void nodesBeginUp() {
        for (int kind : KINDS) {
            RepairGroups x = new RepairGroups(kind);
            for (int node = 0; node < 12; node++) {
                due("up(" + node + ")", x.up(node), true);
            }
        }
    }

    /** Every pair of a data shard and a coded one of PLAIN, alone among the coded ones. */
    private static void racksAreRoundedDown() {
        for (int s = 0; s < 3; s++) {
            for (int i = 0; i < 6; i++) {
                for (int j = 6; j < 10; j++) {
                    RepairGroups x = new RepairGroups(PLAIN);
                    for (int other = 6; other < 10; other++) {
                        if (other != j) {
                            x.fail(NODE[s][other]);
                        }
                    }
                    String call = "put(" + s + ", " + i + ") with " + j + " alone";
                    due(call, x.put(s, i, 1L), 1);
                    dueCounts(call, x, 2, 2, RACK[NODE[s][i]] == RACK[NODE[s][j]] ? 0 : 1, 0);
                }
            }
        }
    }

    private static void nodesWrapAround() {
        RepairGroups x = new RepairGroups(WOVEN);
        due("node(1, 6)", x.node(1, 6), 11);
        due("node(1, 7)", x.node(1, 7), 0);
        due("node(2, 1)", x.node(2, 1), 11);
        due("node(2, 2)", x.node(2, 2), 0);
        due("fail(11)", x.fail(11), 2);
        due("fail(0)", x.fail(0), 3);
        due("lost(0)", x.lost(0), 1);
        due("lost(1)", x.lost(1), 1 << 6 | 1 << 7);
        due("lost(2)", x.lost(2), 1 << 1 | 1 << 2);
    }

    private static void damagedIsWhatDiffersFromTheLatestWrite() {
        RepairGroups x = new RepairGroups(PLAIN);
        x.put(0, 0, 3L);
        x.put(0, 0, 1L);
        x.damage(0, 0, 0);
        due("content(0, 0)", x.content(0, 0), 0);
        due("fetch of a shard that is 0 again but was written with 1", x.fetch(0, 0), 1);
        due("then fetched()", x.fetched(), 1);
        RepairGroups y = new RepairGroups(PLAIN);
        y.put(0, 0, 3L);
        y.put(0, 0, 1L);
        y.damage(0, 0, 1);
        due("content(0, 0)", y.content(0, 0), 3);
        due("fetch of a shard that is as it was written before the latest time", y.fetch(0, 0), 1);
        RepairGroups z = new RepairGroups(PLAIN);
        z.put(0, 0, 1L);
        due("scrub of what is as written", z.scrub(0), 0);
    }

    private static void neverWrittenIsDamagedWhenNotNothing() {
        for (int kind : KINDS) {
            for (int i = 0; i < shardsOf(kind); i++) {
                RepairGroups x = new RepairGroups(kind);
                due("fetch(0, " + i + ")", x.fetch(0, i), 0);
                x.damage(0, i, 63);
                due("content(0, " + i + ")", x.content(0, i), Long.MIN_VALUE);
                due("scrub(0) with " + i + " damaged", x.scrub(0), 1);
                due("then lost(0)", x.lost(0), 1 << i);
            }
        }
    }

    private static void onlyWhatIsThereIsRead() {
        RepairGroups x = newWiped(WOVEN, 0, 5, 10);
        due("scrub(0)", x.scrub(0), 0);
        dueCounts("scrub(0) with three lost", x, 8, 0, 0, 0);
        due("put(0, 1) with 6 .. 9 there", x.put(0, 1, 1L), 3);
        dueCounts("put(0, 1)", x, 8 + 4, 4, 3, 0);
    }

    private static void rejectedIsLostFromThenOn() {
        RepairGroups x = filled(PLAIN);
        int reads = x.count(0);
        x.damage(0, 4, 7);
        due("lost(0) before it is read", x.lost(0), 0);
        due("scrub(0)", x.scrub(0), 1);
        due("count(0), the rejected read among them", x.count(0), reads + 10);
        due("lost(0)", x.lost(0), 16);
        due("damage(0, 4, 7), which would undo it", x.damage(0, 4, 7), false);
        due("lost(0) still", x.lost(0), 16);
        due("content(0, 4)", x.content(0, 4), 0);
        due("scrub(0) again", x.scrub(0), 0);
        due("count(0), it is not read again", x.count(0), reads + 10 + 9);
        due("up(4), a rejected shard does not take its node down", x.up(4), true);
    }

    private static void writtenIsThereAndWhole() {
        RepairGroups x = filled(LOCAL);
        x.damage(0, 4, 7);
        x.fail(4);
        x.revive(4);
        int writes = x.count(1);
        due("repair(0, 4), damaged before it was lost", x.repair(0, 4), 1);
        due("count(1)", x.count(1), writes + 1);
        due("lost(0)", x.lost(0), 0);
        due("content(0, 4)", x.content(0, 4), dataOf(0, 4));
        due("scrub(0)", x.scrub(0), 0);
        due("damage(0, 4, 7), which does not undo the old damage", x.damage(0, 4, 7), true);
        due("scrub(0)", x.scrub(0), 1);
    }

    private static void rejectedReadsCrossToo() {
        // Shard 5 of LOCAL lies in the rack of 3 and 4, and 7 does not.
        RepairGroups x = newWiped(LOCAL, 3);
        x.damage(0, 7, 0);
        due("fetch(0, 3) with 7 damaged", x.fetch(0, 3), 2);
        // 4, 5, 7 and then 0, 1, 2, 4, 5, 8.
        dueCounts("7 damaged", x, 3 + 6, 0, 1 + 4, 2);
        RepairGroups y = newWiped(LOCAL, 3);
        y.damage(0, 4, 0);
        due("fetch(0, 3) with 4 damaged", y.fetch(0, 3), 2);
        // 4 and then 0, 1, 2, 5, 7, 8.
        dueCounts("4 damaged", y, 1 + 6, 0, 0 + 5, 2);
        RepairGroups z = new RepairGroups(PLAIN);
        z.damage(0, 6, 0);
        due("put(0, 0) with 6 damaged", z.put(0, 0, 1L), 3);
        dueCounts("6 damaged", z, 5, 4, 4, 0);
    }

    private static void plansCountTheDamaged() {
        RepairGroups x = wiped(WOVEN, 0, 8);
        damageAll(x, 0, 1, 2, 3, 4, 5, 6, 7, 9, 10);
        due("cost(0, 0) with all others damaged", x.cost(0, 0), 3);
        due("cost(0, 8) with all others damaged", x.cost(0, 8), 2);
        RepairGroups y = wiped(PLAIN, 0, 1, 2, 3);
        damageAll(y, 0, 4, 5, 6, 7, 8, 9);
        due("cost(0, 0) with the six others damaged", y.cost(0, 0), 6);
    }

    /** Each pair of lost shards of each kind: the second one spoils the local plan only in its own group. */
    private static void localPlanNeedsAllOthersOfTheGroup() {
        for (int kind : KINDS) {
            for (int a = 0; a < shardsOf(kind); a++) {
                for (int b = 0; b < shardsOf(kind); b++) {
                    RepairGroups x = newWiped(kind, a, b);
                    int[] group = groupOf(kind, a);
                    boolean local = group.length > 0 && (b == a || !isAmong(group, b));
                    String call = "kind " + kind + ", cost(0, " + a + ") with " + b + " lost";
                    due(call, x.cost(0, a), local ? group.length - 1 : 6);
                }
            }
        }
    }

    private static int[] groupOf(int kind, int i) {
        int[][] groups = {FIRST_GROUP, SECOND_GROUP, WOVEN_GROUP};
        int there = kind == WOVEN ? 3 : kind == LOCAL ? 2 : 0;
        for (int g = 0; g < there; g++) {
            if (isAmong(groups[g], i)) {
                return groups[g];
            }
        }
        return new int[0];
    }

    private static void localPlanNeedsNoRank() {
        RepairGroups x = leftWith(LOCAL, 3, 4, 7);
        due("rank(0) of 3, 4, 7", x.rank(0), 3);
        due("cost(0, 5)", x.cost(0, 5), 3);
        due("cost(0, 0)", x.cost(0, 0), -4);
        due("repair(0, 5)", x.repair(0, 5), 1);
        due("content(0, 5)", x.content(0, 5), dataOf(0, 5));
        RepairGroups y = leftWith(WOVEN, 9, 10);
        due("rank(0) of 9, 10", y.rank(0), 2);
        due("cost(0, 8)", y.cost(0, 8), 2);
        due("fetch(0, 8)", y.fetch(0, 8), 1);
        due("fetched()", y.fetched(), codeSays(WOVEN, 0, 8));
    }

    private static void globalPlanNeedsRankSix() {
        RepairGroups x = leftWith(PLAIN, 4, 5, 6, 7, 8, 9);
        due("cost(0, 0) with six of PLAIN", x.cost(0, 0), 6);
        due("cost(0, 0) with five of PLAIN", leftWith(PLAIN, 5, 6, 7, 8, 9).cost(0, 0), -4);
        RepairGroups six = leftWith(LOCAL, 3, 4, 5, 7, 8, 9);
        due("rank(0) of 3, 4, 5, 7, 8, 9", six.rank(0), 5);
        due("cost(0, 0) with six of LOCAL of rank 5", six.cost(0, 0), -4);
        RepairGroups seven = leftWith(WOVEN, 3, 4, 5, 7, 8, 9, 10);
        due("rank(0) of 3, 4, 5, 7, 8, 9, 10", seven.rank(0), 5);
        due("cost(0, 0) with seven of WOVEN of rank 5", seven.cost(0, 0), -4);
        due("fetch(0, 0) with seven of WOVEN of rank 5", seven.fetch(0, 0), -4);
    }

    private static void globalPlanLeavesOutWhatFollows() {
        // 7 follows from 3, 4, 5, and 6 from 0, 1, 2, so that they are not read and their damage stays.
        RepairGroups x = wiped(LOCAL, 0, 1);
        x.damage(0, 7, 0);
        due("fetch(0, 0)", x.fetch(0, 0), 1);
        due("fetched()", x.fetched(), dataOf(0, 0));
        due("lost(0)", x.lost(0), 3);
        RepairGroups y = wiped(WOVEN, 8, 9);
        damageAll(y, 0, 6, 7, 10);
        due("fetch(0, 9)", y.fetch(0, 9), 1);
        due("fetched()", y.fetched(), codeSays(WOVEN, 0, 9));
        due("lost(0)", y.lost(0), 0x300);
        // 10 follows from 8 and 9.
        RepairGroups z = leftWith(WOVEN, 3, 4, 5, 6, 8, 9, 10);
        z.damage(0, 10, 0);
        due("fetch(0, 2)", z.fetch(0, 2), 1);
        due("fetched()", z.fetched(), dataOf(0, 2));
        due("content(0, 10), still there", z.content(0, 10), codeSays(WOVEN, 0, 10) ^ 1);
    }

    private static void globalPlanEndsAtSix() {
        RepairGroups x = wiped(PLAIN, 0);
        damageAll(x, 0, 7, 8, 9);
        due("fetch(0, 0)", x.fetch(0, 0), 1);
        due("lost(0), as 1 .. 6 were read alone", x.lost(0), 1);
        RepairGroups y = wiped(PLAIN, 9);
        damageAll(y, 0, 6, 7, 8);
        due("fetch(0, 9)", y.fetch(0, 9), 1);
        due("lost(0), as 0 .. 5 were read alone", y.lost(0), 1 << 9);
    }

    private static void otherwiseThereIsNoPlan() {
        for (int kind : KINDS) {
            RepairGroups x = withAllWiped(kind);
            for (int i = 0; i < shardsOf(kind); i++) {
                due("cost(0, " + i + ") with nothing there", x.cost(0, i), -4);
            }
        }
    }

    private static void readingEndsAtTheRejectedOne() {
        RepairGroups x = newWiped(PLAIN, 0, 1, 2, 3);
        damageAll(x, 0, 6, 8);
        due("fetch(0, 0)", x.fetch(0, 0), -4);
        due("lost(0), as 8 was not read", x.lost(0), 0x4F);
        dueCounts("4, 5, 6 read", x, 3, 0, 3, 1);
        RepairGroups y = newWiped(LOCAL, 3);
        damageAll(y, 0, 4, 5);
        due("fetch(0, 3)", y.fetch(0, 3), 3);
        // 4; then 0, 1, 2, 5; then 0, 1, 2, 7, 8, 9: the shard 6 follows from 0, 1, 2.
        dueCounts("two damaged", y, 1 + 4 + 6, 0, 0 + 3 + 6, 3);
    }

    private static void plansAreChosenAnew() {
        RepairGroups plain = wiped(PLAIN, 0);
        damageAll(plain, 0, 1, 2, 3);
        dueChosen("PLAIN", plain, 4, dataOf(0, 0), 0xF);
        RepairGroups local = wiped(LOCAL, 0);
        damageAll(local, 0, 1, 2, 3);
        dueChosen("LOCAL", local, 4, dataOf(0, 0), 0xF);
        RepairGroups woven = wiped(WOVEN, 0);
        int[] before = {woven.count(0), woven.count(1), woven.count(2)};
        damageAll(woven, 0, 1, 2, 3, 8);
        dueChosen("WOVEN", woven, 5, dataOf(0, 0), 0x10F);
        // 1; 2; 3; 4, 5, 6, 7, 8; 4, 5, 6, 7, 9, 10.
        dueCounts("WOVEN", woven, before[0] + 14, before[1], before[2] + 12, 5);
    }

    private static void dueChosen(String of, RepairGroups x, int plans, long content, int lost) {
        due(of + ", fetch(0, 0)", x.fetch(0, 0), plans);
        due(of + ", fetched()", x.fetched(), content);
        due(of + ", lost(0)", x.lost(0), lost);
        due(of + ", count(3)", x.count(3), plans);
    }

    private static void failsWhenThereIsNoPlan() {
        RepairGroups x = newWiped(PLAIN, 0, 1, 2, 3, 4);
        due("fetch(0, 0) without a plan from the first", x.fetch(0, 0), -4);
        dueCounts("no plan was chosen", x, 0, 0, 0, 0);
        RepairGroups y = newWiped(PLAIN, 0);
        damageAll(y, 0, 1, 2, 3, 4);
        due("fetch(0, 0) when plans run out", y.fetch(0, 0), -4);
        dueCounts("four plans were chosen", y, 4, 0, 2, 4);
        RepairGroups z = newWiped(WOVEN, 0);
        damageAll(z, 0, 1, 2, 3, 8, 10);
        due("fetch(0, 0) of WOVEN when plans run out", z.fetch(0, 0), -4);
        due("lost(0)", z.lost(0), 0x50F);
        dueCounts("five plans were chosen", z, 14, 0, 12, 5);
    }

    /** Every set of lost shards of stripe 0 that leaves a plan for its least shard. */
    private static void contentFollowsFromWhatWasRead() {
        for (int kind : KINDS) {
            for (int set = 1; set < 1 << shardsOf(kind); set++) {
                RepairGroups x = filled(kind);
                for (int i = 0; i < shardsOf(kind); i++) {
                    if ((set >> i & 1) != 0) {
                        x.fail(i);
                    }
                }
                int least = Integer.numberOfTrailingZeros(set);
                boolean planned = x.cost(0, least) > 0;
                String call = "kind " + kind + " without the set " + set + ", fetch(0, " + least + ")";
                due(call, x.fetch(0, least), planned ? 1 : -4);
                due(call + ", fetched()", x.fetched(), planned ? codeSays(kind, 0, least) : 0);
            }
        }
    }

    // ---- Promise 1

    private static void kindOneIsLocal() {
        RepairGroups x = new RepairGroups(1);
        due("size()", x.size(), 10);
        due("put(0, 0)", x.put(0, 0, 1L), 3);
        due("content(0, 7)", x.content(0, 7), 0);
        x.fail(8);
        due("cost(0, 8)", x.cost(0, 8), 6);
    }

    private static void kindTwoIsWoven() {
        RepairGroups x = new RepairGroups(2);
        due("size()", x.size(), 11);
        due("put(0, 0)", x.put(0, 0, 1L), 4);
        due("content(0, 10)", x.content(0, 10), INVERSE_FROM_8[0] ^ INVERSE_FROM_8[1]);
        x.fail(8);
        due("cost(0, 8)", x.cost(0, 8), 2);
    }

    private static void anyOtherKindIsPlain() {
        for (int kind : OTHER_KINDS) {
            RepairGroups x = new RepairGroups(kind);
            String of = "kind " + kind + ", ";
            due(of + "size()", x.size(), 10);
            due(of + "put(0, 0)", x.put(0, 0, 1L), 4);
            for (int i = 6; i < 10; i++) {
                due(of + "content(0, " + i + ")", x.content(0, i), INVERSE_FROM_8[i - 6]);
            }
            x.fail(0);
            due(of + "cost(0, 0)", x.cost(0, 0), 6);
        }
    }

    private static void allIsThereAndNothingCounted() {
        int[] kinds = {0, 1, 2, 3, -1, LEAST, MOST};
        for (int kind : kinds) {
            RepairGroups x = new RepairGroups(kind);
            dueCounts("kind " + kind, x, 0, 0, 0, 0);
            for (int s = 0; s < 3; s++) {
                due("kind " + kind + ", lost(" + s + ")", x.lost(s), 0);
                for (int i = 0; i < x.size(); i++) {
                    due("kind " + kind + ", content(" + s + ", " + i + ")", x.content(s, i), 0);
                    due("kind " + kind + ", fetch(" + s + ", " + i + ")", x.fetch(s, i), 0);
                    due("kind " + kind + ", fetched()", x.fetched(), 0);
                }
            }
        }
    }

    private static void newObjectsOweNothingToOlderOnes() {
        // Shard 7, and 3, which is rejected on the way; 2 and 9 have their nodes down.
        RepairGroups older = busy(WOVEN);
        dueAndSame("mend(0) of another object", () -> filled(WOVEN), x -> older.mend(0), 2);
        RepairGroups newer = new RepairGroups(PLAIN);
        dueCounts("a new object beside a busy one", newer, 0, 0, 0, 0);
        due("lost(0)", newer.lost(0), 0);
        due("up(2)", newer.up(2), true);
        due("fetched()", newer.fetched(), 0);
    }

    // ---- Promise 2

    private static void putNoStripe() {
        for (int s : NO_STRIPES) {
            dueRefused("put(" + s + ", 0, 9)", x -> x.put(s, 0, 9L), -1);
            dueRefused("put(" + s + ", 5, -1)", x -> x.put(s, 5, -1L), -1);
        }
    }

    private static void putNoDataShard() {
        int[] noData = {-1, 6, 7, 8, 9, 10, 11, 12, 32, 256, LEAST, LEAST + 1, MOST};
        for (int i : noData) {
            dueRefused("put(0, " + i + ", 9)", x -> x.put(0, i, 9L), -1);
            dueRefused("put(2, " + i + ", 9)", x -> x.put(2, i, 9L), -1);
        }
        for (int s = 0; s < 3; s++) {
            due("put(" + s + ", 0) at the edge", new RepairGroups(PLAIN).put(s, 0, 1L), 4);
            due("put(" + s + ", 5) at the edge", new RepairGroups(PLAIN).put(s, 5, 1L), 4);
        }
    }

    private static void putLost() {
        for (int kind : KINDS) {
            dueAndSame("put of a shard whose node is down", () -> busy(kind), x -> x.put(0, 2, 9L), -2);
            dueAndSame("put of a shard whose node is up again", () -> busy(kind), x -> x.put(1, 2, 9L), -2);
            dueAndSame("put of a shard that was damaged and lost", () -> busy(kind), x -> x.put(1, 4, 9L), -2);
            dueAndSame("put of a rejected shard", () -> withRejected(kind), x -> x.put(0, 3, 9L), -2);
        }
    }

    private static RepairGroups withRejected(int kind) {
        RepairGroups x = busy(kind);
        x.scrub(0);
        return x;
    }

    private static void putRejectedAndThatIsAll() {
        for (int kind : KINDS) {
            RepairGroups x = filled(kind);
            int[] before = {x.count(0), x.count(1), x.count(2)};
            x.damage(0, 5, 63);
            x.damage(0, 8, 1);
            due("put of a damaged shard", x.put(0, 5, 9L), -3);
            dueCounts("put of a damaged shard", x, before[0] + 1, before[1], before[2], 0);
            due("lost(0)", x.lost(0), 32);
            for (int i = 6; i < shardsOf(kind); i++) {
                due("content(0, " + i + ")", x.content(0, i), codeSays(kind, 0, i) ^ (i == 8 ? 2 : 0));
            }
            due("put of it again", x.put(0, 5, 9L), -2);
        }
    }

    private static void putOverLostCodedShards() {
        RepairGroups x = filled(PLAIN);
        int writes = x.count(1);
        for (int left = 3; left >= 0; left--) {
            x.fail(9 - left);
            int[] before = {x.count(0), x.count(1)};
            due("put with " + left + " coded shards there", x.put(0, 0, left), left);
            due("reads", x.count(0) - before[0], left + 1);
            due("writes", x.count(1) - before[1], left + 1);
            due("content(0, 0)", x.content(0, 0), left);
            due("content(0, 6) stays lost", x.content(0, 6), 0);
        }
        due("writes of all", x.count(1) - writes, 4 + 3 + 2 + 1);
        due("lost(0)", x.lost(0), 0x3C0);
        due("fetch(0, 0) of what was written alone", x.fetch(0, 0), 0);
    }

    private static void putPassesByRowsWithNothingAtThePlace() {
        for (int kind = LOCAL; kind <= WOVEN; kind++) {
            for (int i = 0; i < 6; i++) {
                RepairGroups x = filled(kind);
                int other = i < 3 ? 7 : 6;
                int reads = x.count(0);
                x.damage(1, other, 2);
                due("put(1, " + i + ")", x.put(1, i, -9L), shardsOf(kind) - 7);
                due("reads", x.count(0) - reads, shardsOf(kind) - 6);
                due("lost(1), as " + other + " was not read", x.lost(1), 0);
                due("content(1, " + other + ")", x.content(1, other), codeSays(kind, 1, other) ^ 4);
            }
        }
    }

    private static void putLosesRejectedCodedShards() {
        RepairGroups x = filled(PLAIN);
        int[] before = {x.count(0), x.count(1), x.count(2)};
        damageAll(x, 0, 6, 8);
        due("put with 6 and 8 damaged", x.put(0, 3, 5L), 2);
        due("lost(0)", x.lost(0), 0x140);
        dueCounts("put with 6 and 8 damaged", x, before[0] + 5, before[1] + 3, before[2] + 4, 0);
        due("content(0, 3)", x.content(0, 3), 5);
        for (int j = 7; j <= 9; j += 2) {
            long due = codeSays(PLAIN, 0, j) ^ multiple(rowByte(PLAIN, j, 3), dataOf(0, 3) ^ 5L);
            due("content(0, " + j + ")", x.content(0, j), due);
        }
        due("mend(0) of what was rejected", x.mend(0), 2);
        due("content(0, 6)", x.content(0, 6), codeSays(PLAIN, 0, 6) ^ multiple(rowByte(PLAIN, 6, 3), dataOf(0, 3) ^ 5L));
        RepairGroups y = new RepairGroups(WOVEN);
        damageAll(y, 0, 6, 8, 9, 10);
        due("put with all coded shards damaged", y.put(0, 0, 5L), 0);
        due("lost(0)", y.lost(0), 0x740);
        due("content(0, 0)", y.content(0, 0), 5);
        dueCounts("put with all coded shards damaged", y, 5, 1, 4, 0);
    }

    private static void putAddsTheOldAndTheNew() {
        long[] contents = {0L, 1L, -1L, Long.MIN_VALUE, Long.MAX_VALUE, SOME_BYTES, SOME_BYTES, 0L, 0L};
        for (int kind : KINDS) {
            RepairGroups x = new RepairGroups(kind);
            int reads = 0;
            for (long v : contents) {
                due("put(2, 4, " + v + ")", x.put(2, 4, v), shardsOf(kind) - (kind == PLAIN ? 6 : 7));
                reads += shardsOf(kind) - (kind == PLAIN ? 5 : 6);
                due("count(0)", x.count(0), reads);
                due("count(1)", x.count(1), reads);
                for (int i = 0; i < shardsOf(kind); i++) {
                    due("content(2, " + i + ")", x.content(2, i), multiple(rowByte(kind, i, 4), v));
                }
            }
        }
    }

    // ---- Promise 3

    private static void fetchNoStripe() {
        for (int s : NO_STRIPES) {
            dueRefused("fetch(" + s + ", 0)", x -> x.fetch(s, 0), -1);
            dueRefused("fetch(" + s + ", 9)", x -> x.fetch(s, 9), -1);
        }
    }

    private static void fetchNoShard() {
        for (int kind : KINDS) {
            for (int i : noShardsOf(kind)) {
                dueRefusedOf(kind, "fetch(0, " + i + ")", x -> x.fetch(0, i), -1);
                dueRefusedOf(kind, "fetch(2, " + i + ")", x -> x.fetch(2, i), -1);
            }
            for (int s = 0; s < 3; s++) {
                int last = shardsOf(kind) - 1;
                RepairGroups x = filled(kind);
                due("fetch(" + s + ", 0) at the edge", x.fetch(s, 0), 0);
                due("fetched()", x.fetched(), dataOf(s, 0));
                due("fetch(" + s + ", " + last + ") at the edge", x.fetch(s, last), 0);
                due("fetched()", x.fetched(), codeSays(kind, s, last));
            }
        }
    }

    private static void fetchWhatIsThere() {
        for (int kind : KINDS) {
            RepairGroups x = filled(kind);
            damageAll(x, 0, 1, 2, 6);
            int[] before = {x.count(0), x.count(1), x.count(2)};
            due("fetch(0, 0)", x.fetch(0, 0), 0);
            dueCounts("one read, for nobody", x, before[0] + 1, before[1], before[2], 0);
            due("lost(0)", x.lost(0), 0);
        }
    }

    private static void fetchWhatIsLost() {
        for (int kind : KINDS) {
            RepairGroups x = filled(kind);
            int[] before = {x.count(0), x.count(1), x.count(2)};
            x.fail(0);
            due("fetch(0, 0) with its node down", x.fetch(0, 0), 1);
            due("fetched()", x.fetched(), dataOf(0, 0));
            int read = kind == PLAIN ? 6 : 3;
            int across = kind == PLAIN ? 4 : 1;
            dueCounts("a lost shard is not read itself", x, before[0] + read, before[1], before[2] + across, 1);
            x.revive(0);
            due("fetch(0, 0) with its node up again", x.fetch(0, 0), 1);
        }
    }

    private static void fetchWhatIsRejectedNow() {
        for (int kind : KINDS) {
            RepairGroups x = filled(kind);
            int[] before = {x.count(0), x.count(1), x.count(2)};
            x.damage(0, 0, 63);
            due("fetch(0, 0), damaged", x.fetch(0, 0), 1);
            due("fetched()", x.fetched(), dataOf(0, 0));
            due("lost(0)", x.lost(0), 1);
            int read = kind == PLAIN ? 6 : 3;
            int across = kind == PLAIN ? 4 : 1;
            dueCounts("its own read too", x, before[0] + 1 + read, before[1], before[2] + across, 1);
        }
    }

    private static void fetchWritesNothing() {
        for (int kind : KINDS) {
            RepairGroups x = wiped(kind, 5);
            int writes = x.count(1);
            due("fetch(0, 5)", x.fetch(0, 5), 1);
            due("count(1)", x.count(1), writes);
            due("lost(0)", x.lost(0), 32);
            due("content(0, 5)", x.content(0, 5), 0);
        }
    }

    private static void fetchThatFails() {
        dueAndSame("fetch without a plan", () -> wiped(PLAIN, 0, 1, 2, 3, 4), x -> x.fetch(0, 0), -4);
        RepairGroups rejected = newWiped(PLAIN, 0, 1, 2, 3);
        rejected.damage(0, 4, 0);
        due("fetch(0, 4), rejected now and then without a plan", rejected.fetch(0, 4), -4);
        due("lost(0)", rejected.lost(0), 0x1F);
        dueCounts("its own read alone", rejected, 1, 0, 0, 0);
        RepairGroups runOut = newWiped(PLAIN, 0, 1, 2, 3);
        runOut.damage(0, 9, 0);
        due("fetch(0, 0) when plans run out", runOut.fetch(0, 0), -4);
        due("lost(0)", runOut.lost(0), 0x20F);
        dueCounts("4 .. 9 read", runOut, 6, 0, 6, 1);
    }

    // ---- Promise 4

    private static void fetchedLatest() {
        RepairGroups x = filled(WOVEN);
        x.fetch(0, 1);
        due("fetched() of one that is there", x.fetched(), dataOf(0, 1));
        x.fetch(2, 10);
        due("fetched() of a later one", x.fetched(), codeSays(WOVEN, 2, 10));
        x.fail(3);
        x.fetch(0, 3);
        due("fetched() of a lost one", x.fetched(), dataOf(0, 3));
        x.put(0, 0, 0L);
        x.fetch(0, 0);
        due("fetched() of one that is 0", x.fetched(), 0);
    }

    private static void fetchedIsNotChangedByLesserAnswers() {
        RepairGroups x = wiped(PLAIN, 0, 1, 2, 3, 4);
        x.fetch(0, 5);
        due("fetch(3, 0)", x.fetch(3, 0), -1);
        due("fetched() after -1", x.fetched(), dataOf(0, 5));
        due("fetch(0, 10)", x.fetch(0, 10), -1);
        due("fetched() after -1", x.fetched(), dataOf(0, 5));
        due("fetch(0, 0)", x.fetch(0, 0), -4);
        due("fetched() after -4", x.fetched(), dataOf(0, 5));
        RepairGroups y = wiped(PLAIN, 0, 1, 2, 3);
        y.fetch(0, 5);
        y.damage(0, 9, 0);
        due("fetch(0, 0) when plans run out", y.fetch(0, 0), -4);
        due("fetched() after it", y.fetched(), dataOf(0, 5));
    }

    private static void fetchedIsNotChangedByOtherCalls() {
        RepairGroups x = filled(LOCAL);
        x.fetch(0, 5);
        x.put(0, 1, 1L);
        x.damage(0, 8, 0);
        x.scrub(0);
        due("repair(0, 8)", x.repair(0, 8), 1);
        wipe(x, 3);
        due("mend(0)", x.mend(0), 1);
        x.content(0, 2);
        due("fetched() after changes of others", x.fetched(), dataOf(0, 5));
        wipe(x, 0, 1, 2, 6);
        due("repair(0, 0)", x.repair(0, 0), -4);
        due("mend(0)", x.mend(0), 0);
        due("fetched() after a repair that failed", x.fetched(), dataOf(0, 5));
    }

    /** The document may be read otherwise; what was fetched is taken to be what the fetch brought. */
    private static void fetchedStaysWhatWasFetched() {
        RepairGroups x = filled(WOVEN);
        x.fetch(0, 5);
        x.put(0, 5, 1L);
        due("fetched() after a put", x.fetched(), dataOf(0, 5));
        x.damage(0, 5, 0);
        due("fetched() after damage", x.fetched(), dataOf(0, 5));
        x.fail(5);
        due("fetched() after a failure", x.fetched(), dataOf(0, 5));
        x.fetch(0, 5);
        due("fetched() anew", x.fetched(), 1);
    }

    private static void fetchedNothing() {
        for (int kind : KINDS) {
            RepairGroups x = filled(kind);
            due("fetched() before any fetch", x.fetched(), 0);
            x.fetch(-1, 0);
            x.fetch(0, shardsOf(kind));
            due("fetched() after refused ones", x.fetched(), 0);
            wipe(x, 0, 1, 2, 3, 4, 6);
            due("fetch(0, 0)", x.fetch(0, 0), -4);
            due("fetched() after one that failed", x.fetched(), 0);
        }
    }

    // ---- Promise 5

    private static void failCountsWhatWasThere() {
        int[] ofTen = {3, 3, 3, 2, 2, 3, 3, 3, 2, 2, 2, 2};
        int[] ofEleven = {3, 3, 3, 3, 2, 3, 3, 3, 3, 2, 3, 2};
        for (int node = 0; node < 12; node++) {
            for (int kind : KINDS) {
                RepairGroups x = filled(kind);
                due("kind " + kind + ", fail(" + node + ")", x.fail(node), (kind == WOVEN ? ofEleven : ofTen)[node]);
                due("up(" + node + ")", x.up(node), false);
                for (int s = 0; s < 3; s++) {
                    due("lost(" + s + ") with " + node + " down", x.lost(s), shardsOn(kind, s, node));
                }
            }
        }
    }

    private static int shardsOn(int kind, int s, int node) {
        int set = 0;
        for (int i = 0; i < shardsOf(kind); i++) {
            set |= NODE[s][i] == node ? 1 << i : 0;
        }
        return set;
    }

    private static void failOfANodeWithLittleOnIt() {
        RepairGroups x = newWiped(WOVEN, 0);
        due("fail(0) with nothing on it", x.fail(0), 0);
        due("up(0)", x.up(0), false);
        RepairGroups y = new RepairGroups(WOVEN);
        y.damage(1, 6, 0);
        due("fail(11) with a damaged shard", y.fail(11), 2);
        RepairGroups z = new RepairGroups(WOVEN);
        z.damage(1, 6, 0);
        z.fetch(1, 6);
        int reads = z.count(0);
        due("fail(11) with a rejected shard", z.fail(11), 1);
        due("count(0), a failure is no read", z.count(0), reads);
        RepairGroups w = newWiped(WOVEN, 11);
        w.repair(2, 1);
        due("fail(11) with one shard put together again", w.fail(11), 1);
    }

    private static void failNoNode() {
        for (int node : NO_NODES) {
            dueRefused("fail(" + node + ")", x -> x.fail(node), -1);
        }
        due("fail(0) at the edge", new RepairGroups(PLAIN).fail(0), 3);
        due("fail(11) at the edge", new RepairGroups(PLAIN).fail(11), 2);
    }

    private static void failOfANodeThatIsDown() {
        for (int kind : KINDS) {
            dueAndSame("fail(2) while down", () -> busy(kind), x -> x.fail(2), -2);
            dueAndSame("fail(9) while down", () -> busy(kind), x -> x.fail(9), -2);
            for (int node = 0; node < 12; node++) {
                int down = node;
                dueAndSame("fail(" + node + ") while all are down", () -> withAllDown(kind), x -> x.fail(down), -2);
            }
        }
    }

    // ---- Promise 6

    private static void reviveBringsNothingBack() {
        for (int node = 0; node < 12; node++) {
            RepairGroups x = filled(WOVEN);
            int there = x.fail(node);
            int[] lost = {x.lost(0), x.lost(1), x.lost(2)};
            due("revive(" + node + ")", x.revive(node), true);
            due("up(" + node + ")", x.up(node), true);
            for (int s = 0; s < 3; s++) {
                due("lost(" + s + ")", x.lost(s), lost[s]);
            }
            due("shards lost", Integer.bitCount(lost[0]) + Integer.bitCount(lost[1]) + Integer.bitCount(lost[2]), there);
            due("fail(" + node + ")", x.fail(node), 0);
            due("revive(" + node + ") after that", x.revive(node), true);
        }
    }

    private static void reviveNoNode() {
        for (int node : NO_NODES) {
            dueRefused("revive(" + node + ")", x -> number(x.revive(node)), 0);
        }
        RepairGroups all = withAllDown(PLAIN);
        due("revive(0) at the edge", all.revive(0), true);
        due("revive(11) at the edge", all.revive(11), true);
        due("up(1)", all.up(1), false);
    }

    private static void reviveOfANodeThatIsUp() {
        for (int kind : KINDS) {
            for (int node = 0; node < 12; node++) {
                int up = node;
                dueAndSame("revive(" + node + ") of a new object", () -> filled(kind), x -> number(x.revive(up)), 0);
            }
            dueAndSame("revive(7), up again", () -> busy(kind), x -> number(x.revive(7)), 0);
            dueAndSame("revive(0), never down", () -> busy(kind), x -> number(x.revive(0)), 0);
        }
    }

    // ---- Promise 7

    private static void damageChangesOneBit() {
        for (int kind : KINDS) {
            RepairGroups x = filled(kind);
            int last = shardsOf(kind) - 1;
            for (int b = 0; b < 64; b++) {
                due("damage(2, " + last + ", " + b + ")", x.damage(2, last, b), true);
                due("content", x.content(2, last), codeSays(kind, 2, last) ^ 1L << b);
                x.damage(2, last, b);
            }
        }
    }

    private static void damageIsNotNoticed() {
        for (int kind : KINDS) {
            RepairGroups x = filled(kind);
            int[] before = {x.count(0), x.count(1), x.count(2)};
            damageAll(x, 0, 0, 1, 2, 3, 4, 5, 6, 7, 8, 9);
            due("lost(0)", x.lost(0), 0);
            due("rank(0)", x.rank(0), 6);
            due("cost(0, 0)", x.cost(0, 0), 0);
            due("repair(0, 0)", x.repair(0, 0), -2);
            due("mend(0)", x.mend(0), 0);
            dueCounts("damage", x, before[0], before[1], before[2], 0);
            due("scrub(0)", x.scrub(0), 10);
        }
    }

    private static void damageTwiceIsNone() {
        for (int b = 0; b < 64; b++) {
            int bit = b;
            dueAndSame("damage(0, 0, " + b + ") twice", () -> filled(WOVEN), x -> twice(x, bit), 2);
        }
        RepairGroups x = filled(PLAIN);
        x.damage(0, 0, 0);
        x.damage(0, 0, 1);
        x.damage(0, 0, 0);
        due("put after three changes", x.put(0, 0, 1L), -3);
        RepairGroups y = filled(PLAIN);
        y.damage(0, 0, 0);
        y.damage(0, 0, 63);
        y.damage(0, 0, 0);
        y.damage(0, 0, 63);
        due("put after four changes", y.put(0, 0, 1L), 4);
    }

    private static long twice(RepairGroups x, int b) {
        return number(x.damage(0, 0, b)) + number(x.damage(0, 0, b));
    }

    private static void damageOfNoShard() {
        for (int s : NO_STRIPES) {
            dueRefused("damage(" + s + ", 0, 0)", x -> number(x.damage(s, 0, 0)), 0);
        }
        for (int kind : KINDS) {
            for (int i : noShardsOf(kind)) {
                dueRefusedOf(kind, "damage(0, " + i + ", 0)", x -> number(x.damage(0, i, 0)), 0);
            }
        }
    }

    private static void damageOfALostShard() {
        for (int kind : KINDS) {
            dueAndSame("damage with the node down", () -> busy(kind), x -> number(x.damage(0, 2, 0)), 0);
            dueAndSame("damage with the node up again", () -> busy(kind), x -> number(x.damage(1, 2, 0)), 0);
            dueAndSame("damage of a rejected shard", () -> withRejected(kind), x -> number(x.damage(0, 3, 63)), 0);
        }
        RepairGroups x = newWiped(PLAIN, 0);
        x.damage(0, 0, 0);
        x.repair(0, 0);
        due("fetch(0, 0), put together after a damage that was refused", x.fetch(0, 0), 0);
    }

    private static void damageOfNoBit() {
        for (int b : NO_BITS) {
            dueRefused("damage(0, 0, " + b + ")", x -> number(x.damage(0, 0, b)), 0);
        }
        due("damage(0, 0, 0) at the edge", new RepairGroups(PLAIN).damage(0, 0, 0), true);
        due("damage(0, 0, 63) at the edge", new RepairGroups(PLAIN).damage(0, 0, 63), true);
    }

    // ---- Promise 8

    private static void repairNoStripe() {
        for (int s : NO_STRIPES) {
            dueRefused("repair(" + s + ", 0)", x -> x.repair(s, 0), -1);
            dueRefused("repair(" + s + ", 2)", x -> x.repair(s, 2), -1);
        }
    }

    private static void repairNoShard() {
        for (int kind : KINDS) {
            for (int i : noShardsOf(kind)) {
                dueRefusedOf(kind, "repair(0, " + i + ")", x -> x.repair(0, i), -1);
                dueRefusedOf(kind, "repair(1, " + i + ")", x -> x.repair(1, i), -1);
            }
            int last = shardsOf(kind) - 1;
            due("repair(0, 0) at the edge", wiped(kind, 0).repair(0, 0), 1);
            due("repair(0, " + last + ") at the edge", wiped(kind, last).repair(0, last), 1);
        }
    }

    private static void repairOfWhatIsNotLost() {
        for (int kind : KINDS) {
            for (int i = 0; i < shardsOf(kind); i++) {
                int there = i;
                dueAndSame("repair(0, " + i + ") of a whole stripe", () -> filled(kind), x -> x.repair(0, there), -2);
            }
            dueAndSame("repair of a damaged shard", () -> busy(kind), x -> x.repair(0, 3), -2);
            dueAndSame("repair of a shard put together before", () -> repaired(kind), x -> x.repair(1, 2), -2);
        }
    }

    private static RepairGroups repaired(int kind) {
        RepairGroups x = busy(kind);
        x.repair(1, 2);
        return x;
    }

    private static void repairWithTheNodeDown() {
        for (int kind : KINDS) {
            dueAndSame("repair(0, 2) with node 2 down", () -> busy(kind), x -> x.repair(0, 2), -3);
            dueAndSame("repair(1, 4) with node 9 down", () -> busy(kind), x -> x.repair(1, 4), -3);
            dueAndSame("repair(0, 0) with all down, so without a plan", () -> withAllDown(kind), x -> x.repair(0, 0), -3);
        }
        // The node of the shard counts, not that of the same number.
        RepairGroups x = filled(PLAIN);
        x.fail(5);
        due("repair(1, 0) with node 5 down", x.repair(1, 0), -3);
        x.fail(0);
        x.revive(5);
        due("repair(1, 0) with node 0 down", x.repair(1, 0), 1);
    }

    private static void repairWritesWhatTheCodeSays() {
        for (int kind : KINDS) {
            for (int s = 0; s < 3; s++) {
                for (int i = 0; i < shardsOf(kind); i++) {
                    RepairGroups x = wiped(kind, NODE[s][i]);
                    int writes = x.count(1);
                    String call = "kind " + kind + ", repair(" + s + ", " + i + ")";
                    due(call, x.repair(s, i), 1);
                    due(call + ", content", x.content(s, i), codeSays(kind, s, i));
                    due(call + ", lost", x.lost(s), 0);
                    due(call + ", count(1)", x.count(1), writes + 1);
                    due(call + ", count(3)", x.count(3), 1);
                }
            }
        }
    }

    private static void repairAnswersThePlans() {
        RepairGroups x = wiped(WOVEN, 0);
        int writes = x.count(1);
        damageAll(x, 0, 1, 2, 3, 8);
        due("repair(0, 0) with four damaged", x.repair(0, 0), 5);
        due("content(0, 0)", x.content(0, 0), dataOf(0, 0));
        due("lost(0)", x.lost(0), 0x10E);
        due("count(1)", x.count(1), writes + 1);
        due("count(3)", x.count(3), 5);
        due("repair(0, 1), by a global plan, as 2 is lost", x.repair(0, 1), 1);
        due("count(3)", x.count(3), 6);
    }

    private static void repairThatFails() {
        for (int kind : KINDS) {
            int[] most = kind == WOVEN ? new int[] {0, 1, 2, 6, 8} : new int[] {0, 1, 2, 6, 3};
            dueAndSame("repair without a plan", () -> wiped(kind, most), x -> x.repair(0, 0), -4);
            dueAndSame("repair with nothing there", () -> withAllWiped(kind), x -> x.repair(0, 0), -4);
        }
        RepairGroups x = newWiped(PLAIN, 0, 1, 2, 3);
        damageAll(x, 0, 5, 9);
        due("repair(0, 0) when plans run out", x.repair(0, 0), -4);
        due("lost(0), what was rejected stays lost", x.lost(0), 0x2F);
        due("content(0, 0)", x.content(0, 0), 0);
        dueCounts("4 and 5 read, nothing written", x, 2, 0, 2, 1);
    }

    // ---- Promise 9

    private static void mendWithNothingToDo() {
        for (int kind : KINDS) {
            dueAndSame("mend(0) of a whole stripe", () -> filled(kind), x -> x.mend(0), 0);
            dueAndSame("mend(2) of a damaged one", () -> withDamaged(kind), x -> x.mend(2), 0);
            dueAndSame("mend(0) with nothing there", () -> withAllWiped(kind), x -> x.mend(0), 0);
            dueAndSame("mend(1) with all nodes down", () -> withAllDown(kind), x -> x.mend(1), 0);
        }
    }

    private static RepairGroups withDamaged(int kind) {
        RepairGroups x = filled(kind);
        damageAll(x, 2, 0, 5, 9);
        return x;
    }

    private static void mendOnlyWhereTheNodeIsUp() {
        for (int kind : KINDS) {
            dueAndSame("mend(0) with the node of the lost one down", () -> withOneDown(kind), x -> x.mend(0), 0);
        }
        RepairGroups x = filled(LOCAL);
        x.fail(0);
        x.fail(4);
        x.fail(9);
        x.revive(9);
        due("mend(0) with 0 and 4 down", x.mend(0), 1);
        due("lost(0)", x.lost(0), 0x11);
        due("content(0, 9)", x.content(0, 9), codeSays(LOCAL, 0, 9));
        x.revive(0);
        x.revive(4);
        due("mend(0) with all up", x.mend(0), 2);
        due("lost(0)", x.lost(0), 0);
    }

    private static RepairGroups withOneDown(int kind) {
        RepairGroups x = filled(kind);
        x.fail(4);
        return x;
    }

    private static void mendOnlyWhereThereIsAPlan() {
        RepairGroups x = wiped(LOCAL, 0, 1, 2, 6, 3);
        due("mend(0) where 3 alone has a plan", x.mend(0), 1);
        due("lost(0)", x.lost(0), 0x47);
        due("content(0, 3)", x.content(0, 3), dataOf(0, 3));
        dueAndSame("mend(0) where none has", () -> wiped(LOCAL, 0, 1, 2, 6), y -> y.mend(0), 0);
    }

    /** A plan may be there only after another shard was put together. */
    private static void mendAsLongAsThereIsAPlan() {
        RepairGroups x = leftWith(WOVEN, 3, 4, 5, 6, 8, 10);
        due("mend(0) from six", x.mend(0), 5);
        due("lost(0)", x.lost(0), 0);
        for (int i = 0; i < 11; i++) {
            due("content(0, " + i + ")", x.content(0, i), codeSays(WOVEN, 0, i));
        }
        // 5 reads 3, 4, 7 and 9 reads 8, 10; after that the rank is 5, and no other has a plan.
        RepairGroups y = leftWith(WOVEN, 3, 4, 7, 8, 10);
        int plans = y.count(3);
        due("mend(0) from five", y.mend(0), 2);
        due("lost(0)", y.lost(0), 0x47);
        due("count(3)", y.count(3), plans + 2);
    }

    private static void mendTakesLocalPlansFirst() {
        RepairGroups x = newWiped(LOCAL, 0, 1, 3);
        x.damage(0, 7, 0);
        // 3: 4, 5, 7 and, as 7 is rejected, 2, 4, 5, 6, 8, 9. 7: 3, 4, 5. 0: 2, 3, 4, 5, 6, 8. 1: 0, 2, 6.
        due("mend(0)", x.mend(0), 4);
        dueCounts("3 before 0", x, 9 + 3 + 6 + 3, 4, 5 + 3 + 5 + 1, 5);
        RepairGroups y = newWiped(LOCAL, 2, 5);
        y.damage(0, 4, 0);
        // 2: 0, 1, 6. 5: 3, 4 and then 0, 1, 2, 3, 7, 8. 4: 3, 5, 7.
        due("mend(0) with two local plans", y.mend(0), 3);
        dueCounts("2 before 5", y, 3 + 2 + 6 + 3, 3, 1 + 0 + 5 + 1, 4);
    }

    private static void mendTakesTheLeastOfLocalPlans() {
        RepairGroups x = newWiped(WOVEN, 5, 8);
        damageAll(x, 0, 7, 9);
        // 5: 3, 4, 7, which is rejected, then 0, 1, 2, 3, 4, 9, which is too, then 0, 1, 2, 3, 4, 10.
        // 7: 3, 4, 5. 8, as 9 is lost: 0 .. 5. 9: 8, 10.
        due("mend(0)", x.mend(0), 4);
        due("lost(0)", x.lost(0), 0);
        dueCounts("5 before 8", x, 3 + 6 + 6 + 3 + 6 + 2, 4, 1 + 4 + 4 + 3 + 6 + 1, 6);
        // 0: 1, 2, 6. 8: 9, which is rejected, then 0 .. 5. 9: 8, 10.
        RepairGroups y = newWiped(WOVEN, 0, 8);
        y.damage(0, 9, 0);
        due("mend(0)", y.mend(0), 3);
        dueCounts("0 before 8", y, 3 + 1 + 6 + 2, 3, 1 + 1 + 6 + 1, 4);
    }

    private static void mendTakesTheLeastWithoutLocalPlans() {
        RepairGroups x = newWiped(PLAIN, 0, 9);
        x.damage(0, 6, 0);
        // 0: 1 .. 6 and then 1 .. 5, 7. 6 and 9: 0 .. 5.
        due("mend(0)", x.mend(0), 3);
        dueCounts("0 before 9", x, 6 + 6 + 6 + 6, 3, 4 + 4 + 6 + 6, 4);
        // Shard 0 is the least, but its node is down.
        RepairGroups y = new RepairGroups(PLAIN);
        y.fail(0);
        wipe(y, 3, 9);
        y.damage(0, 8, 0);
        // 3: 1, 2, 4, 5, 6, 7. 9: 1 .. 6.
        due("mend(0) with node 0 down", y.mend(0), 2);
        dueCounts("3 before 9", y, 6 + 6, 2, 4 + 6, 2);
        due("lost(0)", y.lost(0), 1);
    }

    private static void mendGoesOnWhereOneFails() {
        RepairGroups x = newWiped(LOCAL, 0, 1, 2);
        damageAll(x, 0, 3, 8);
        // 0 fails: 3 is rejected, then 8 by 4, 5, 6, 7, 8. Then 3 has a local plan: 4, 5, 7.
        due("mend(0) with 3 and 8 damaged", x.mend(0), 1);
        due("lost(0)", x.lost(0), 0x107);
        dueCounts("a failure and a success", x, 1 + 5 + 3, 1, 1 + 5 + 1, 3);
        RepairGroups y = newWiped(PLAIN, 0, 1, 2, 3);
        y.damage(0, 4, 0);
        due("mend(0) that only fails", y.mend(0), 0);
        due("lost(0)", y.lost(0), 0x1F);
        dueCounts("a failure", y, 1, 0, 1, 1);
    }

    private static void mendAnswersWhatWasWritten() {
        for (int kind : KINDS) {
            for (int lost = 0; lost <= 4; lost++) {
                RepairGroups x = filled(kind);
                int writes = x.count(1);
                for (int i = 0; i < lost; i++) {
                    wipe(x, 3 * i % 10);
                }
                due("mend(0) of " + lost, x.mend(0), lost);
                due("count(1)", x.count(1), writes + lost);
                due("lost(0)", x.lost(0), 0);
            }
        }
        // What was damaged and is rejected on the way is mended and counted too.
        RepairGroups x = wiped(WOVEN, 0);
        damageAll(x, 0, 1, 2, 3, 8);
        due("mend(0) with four damaged", x.mend(0), 5);
        for (int i = 0; i < 11; i++) {
            due("content(0, " + i + ")", x.content(0, i), codeSays(WOVEN, 0, i));
        }
    }

    private static void mendNoStripe() {
        for (int s : NO_STRIPES) {
            dueRefused("mend(" + s + ")", x -> x.mend(s), -1);
        }
        for (int s = 0; s < 3; s++) {
            RepairGroups x = wiped(PLAIN, 0);
            due("mend(" + s + ") at the edge", x.mend(s), 1);
            for (int other = 0; other < 3; other++) {
                due("lost(" + other + ") is 0", x.lost(other) == 0, other == s);
            }
        }
    }

    // ---- Promise 10

    private static void scrubReadsAllThatIsThere() {
        for (int kind : KINDS) {
            int n = shardsOf(kind);
            for (int s = 0; s < 3; s++) {
                RepairGroups x = new RepairGroups(kind);
                due("scrub(" + s + ")", x.scrub(s), 0);
                dueCounts("all read, for nobody", x, n, 0, 0, 0);
                x.fail(NODE[s][0]);
                x.fail(NODE[s][n - 1]);
                due("scrub(" + s + ") with two lost", x.scrub(s), 0);
                dueCounts("the others read", x, n + n - 2, 0, 0, 0);
            }
            dueAndSame("scrub(0) with nothing there", () -> withAllWiped(kind), x -> x.scrub(0), 0);
            dueAndSame("scrub(0) with all down", () -> withAllDown(kind), x -> x.scrub(0), 0);
        }
    }

    private static void scrubAnswersTheRejected() {
        for (int kind : KINDS) {
            int n = shardsOf(kind);
            RepairGroups x = new RepairGroups(kind);
            for (int i = 0; i < n; i++) {
                due("damage(1, " + i + ", 63)", x.damage(1, i, 63), true);
            }
            x.damage(0, 0, 0);
            due("scrub(1) with all damaged", x.scrub(1), n);
            dueCounts("all read", x, n, 0, 0, 0);
            due("lost(1)", x.lost(1), (1 << n) - 1);
            due("lost(0)", x.lost(0), 0);
            due("scrub(1) again", x.scrub(1), 0);
            dueCounts("none read", x, n, 0, 0, 0);
            RepairGroups y = new RepairGroups(kind);
            damageAll(y, 2, 0, n - 1);
            due("scrub(2) with the first and the last damaged", y.scrub(2), 2);
            due("lost(2)", y.lost(2), 1 | 1 << n - 1);
        }
    }

    private static void scrubNoStripe() {
        for (int s : NO_STRIPES) {
            dueRefused("scrub(" + s + ")", x -> x.scrub(s), -1);
        }
    }

    // ---- Promise 11

    private static void costCountsNothing() {
        for (int kind : KINDS) {
            dueAndSame("cost(0, 2) beside a damaged shard", () -> busy(kind), x -> x.cost(0, 2), kind == PLAIN ? 6 : 3);
            dueAndSame("cost(1, 2)", () -> busy(kind), x -> x.cost(1, 2), kind == PLAIN ? 6 : 3);
        }
    }

    private static void costOfWhatIsNotLost() {
        for (int kind : KINDS) {
            RepairGroups x = filled(kind);
            damageAll(x, 0, 0, 9);
            for (int i = 0; i < shardsOf(kind); i++) {
                due("cost(0, " + i + ")", x.cost(0, i), 0);
            }
            RepairGroups y = wiped(kind, 0, 1, 2, 3, 4, 5, 6);
            due("cost(0, 9) with most lost", y.cost(0, 9), 0);
        }
    }

    private static void costWithoutAPlan() {
        for (int kind : KINDS) {
            RepairGroups x = wiped(kind, 0, 1, 2, 6, 3, 4);
            due("cost(0, 0)", x.cost(0, 0), -4);
            dueCounts("cost", x, filled(kind).count(0), filled(kind).count(1), filled(kind).count(2), 0);
        }
    }

    private static void costWithTheNodeDown() {
        RepairGroups x = new RepairGroups(WOVEN);
        x.fail(0);
        due("cost(0, 0) with its node down", x.cost(0, 0), 3);
        due("cost(1, 7) with its node down", x.cost(1, 7), 3);
        x.fail(10);
        due("cost(0, 10) with its node down", x.cost(0, 10), 2);
    }

    private static void costNoShard() {
        for (int s : NO_STRIPES) {
            dueRefused("cost(" + s + ", 0)", x -> x.cost(s, 0), -1);
        }
        for (int kind : KINDS) {
            for (int i : noShardsOf(kind)) {
                dueRefusedOf(kind, "cost(0, " + i + ")", x -> x.cost(0, i), -1);
            }
        }
    }

    // ---- Promise 12

    private static void rankFromNothingToAll() {
        for (int kind : KINDS) {
            RepairGroups x = new RepairGroups(kind);
            due("rank(0) of all", x.rank(0), 6);
            due("rank(0) of nothing, nodes down", withAllDown(kind).rank(0), 0);
            due("rank(0) of nothing, nodes up", withAllWiped(kind).rank(0), 0);
            for (int i = 0; i < shardsOf(kind); i++) {
                due("rank(0) of " + i + " alone", leftWith(kind, i).rank(0), 1);
            }
        }
        for (int left = 0; left <= 10; left++) {
            int[] shards = new int[left];
            for (int k = 0; k < left; k++) {
                shards[k] = 9 - k;
            }
            due("rank(0) of the last " + left + " of PLAIN", leftWith(PLAIN, shards).rank(0), Math.min(6, left));
        }
    }

    private static void rankOfRowsThatFollowFromOthers() {
        due("rank(0) of 0, 1, 2, 6", leftWith(LOCAL, FIRST_GROUP).rank(0), 3);
        due("rank(0) of 3, 4, 5, 7", leftWith(LOCAL, SECOND_GROUP).rank(0), 3);
        due("rank(0) of 8, 9, 10", leftWith(WOVEN, WOVEN_GROUP).rank(0), 2);
        due("rank(0) of both groups", leftWith(LOCAL, 0, 1, 2, 3, 4, 5, 6, 7).rank(0), 6);
        // Row 10 has the same byte at the places 0 and 1.
        due("rank(0) of 2 .. 7 and 10", leftWith(WOVEN, 2, 3, 4, 5, 6, 7, 10).rank(0), 5);
        due("rank(0) of 2 .. 7 and 9", leftWith(WOVEN, 2, 3, 4, 5, 6, 7, 9).rank(0), 6);
    }

    private static void rankCountsTheDamaged() {
        RepairGroups x = leftWith(PLAIN, 1, 2, 3, 7, 8, 9);
        damageAll(x, 0, 1, 2, 3, 7, 8, 9);
        due("rank(0) with all damaged", x.rank(0), 6);
        due("lost(0), as rank is no read", x.lost(0), 0x71);
        x.scrub(0);
        due("rank(0) with all rejected", x.rank(0), 0);
    }

    private static void rankNoStripe() {
        for (int s : NO_STRIPES) {
            dueRefused("rank(" + s + ")", x -> x.rank(s), -1);
        }
    }

    // ---- Promise 13

    private static void lostHasABitForEachShard() {
        for (int kind : KINDS) {
            int n = shardsOf(kind);
            for (int s = 0; s < 3; s++) {
                due("lost(" + s + ") with all there", filled(kind).lost(s), 0);
                due("lost(" + s + ") with all lost", withAllDown(kind).lost(s), (1 << n) - 1);
                for (int i = 0; i < n; i++) {
                    due("lost(" + s + ") of " + i + " alone", wiped(kind, NODE[s][i]).lost(s), 1 << i);
                }
            }
        }
    }

    private static void lostNoStripe() {
        for (int s : NO_STRIPES) {
            dueRefused("lost(" + s + ")", x -> x.lost(s), -1);
        }
    }

    // ---- Promise 14

    private static void contentIsNoRead() {
        for (int kind : KINDS) {
            dueAndSame("content of a damaged shard", () -> busy(kind), x -> x.content(0, 3), dataOf(0, 3) ^ Long.MIN_VALUE);
            dueAndSame("content of a whole shard", () -> busy(kind), x -> x.content(2, 0), dataOf(2, 0));
        }
    }

    private static void contentOfNoShard() {
        for (int s : NO_STRIPES) {
            dueRefused("content(" + s + ", 0)", x -> x.content(s, 0), 0);
        }
        for (int kind : KINDS) {
            for (int i : noShardsOf(kind)) {
                dueRefusedOf(kind, "content(0, " + i + ")", x -> x.content(0, i), 0);
            }
            int last = shardsOf(kind) - 1;
            due("content(2, " + last + ") at the edge", filled(kind).content(2, last), codeSays(kind, 2, last));
        }
    }

    private static void contentOfALostShard() {
        for (int kind : KINDS) {
            dueAndSame("content with the node down", () -> busy(kind), x -> x.content(0, 2), 0);
            dueAndSame("content with the node up again", () -> busy(kind), x -> x.content(1, 2), 0);
            dueAndSame("content of a rejected shard", () -> withRejected(kind), x -> x.content(0, 3), 0);
        }
    }

    // ---- Promise 15

    private static void nodeOfEachShard() {
        for (int kind : KINDS) {
            RepairGroups x = busy(kind);
            for (int s = 0; s < 3; s++) {
                for (int i = 0; i < shardsOf(kind); i++) {
                    due("node(" + s + ", " + i + ")", x.node(s, i), NODE[s][i]);
                }
            }
        }
    }

    private static void nodeOfNoShard() {
        for (int s : NO_STRIPES) {
            dueRefused("node(" + s + ", 0)", x -> x.node(s, 0), -1);
        }
        for (int kind : KINDS) {
            for (int i : noShardsOf(kind)) {
                dueRefusedOf(kind, "node(1, " + i + ")", x -> x.node(1, i), -1);
            }
        }
    }

    // ---- Promise 16

    private static void upOfEachNode() {
        for (int node = 0; node < 12; node++) {
            RepairGroups x = new RepairGroups(PLAIN);
            x.fail(node);
            for (int other = 0; other < 12; other++) {
                due("up(" + other + ") with " + node + " down", x.up(other), other != node);
            }
            x.fail(node);
            due("up(" + node + ") after a failure that was refused", x.up(node), false);
            x.revive(node);
            due("up(" + node + ") after revive", x.up(node), true);
            x.revive(node);
            due("up(" + node + ") after a revival that was refused", x.up(node), true);
        }
    }

    private static void upOfNoNode() {
        for (int node : NO_NODES) {
            dueRefused("up(" + node + ")", x -> number(x.up(node)), 0);
        }
    }

    // ---- Promise 17

    private static void countEachByItself() {
        // A scrub only reads; a put reads and writes, across racks; a fetch by a plan reads and chooses.
        RepairGroups x = new RepairGroups(LOCAL);
        x.scrub(0);
        dueCounts("scrub", x, 10, 0, 0, 0);
        x.put(0, 0, 1L);
        dueCounts("put", x, 14, 4, 3, 0);
        x.fail(4);
        dueCounts("fail", x, 14, 4, 3, 0);
        x.fetch(0, 4);
        dueCounts("fetch", x, 17, 4, 4, 1);
        dueAndSame("count(0)", () -> busy(LOCAL), y -> y.count(0) - y.count(0), 0);
    }

    private static void countNoSuch() {
        for (int which : NO_COUNTS) {
            dueRefused("count(" + which + ")", x -> x.count(which), -1);
        }
    }

    // ---- Promise 18

    private static void sizeIsN() {
        due("size() of PLAIN", new RepairGroups(PLAIN).size(), 10);
        due("size() of LOCAL", new RepairGroups(LOCAL).size(), 10);
        due("size() of WOVEN", new RepairGroups(WOVEN).size(), 11);
        for (int kind : KINDS) {
            due("size() of a busy object", busy(kind).size(), shardsOf(kind));
            due("size() with nothing there", withAllDown(kind).size(), shardsOf(kind));
        }
    }

    private static void terms() {
        test("What it is", "An object is used for at most 512 calls", EdgesTest::the512thCall);
        test("Terms", "reduced modulo x^8 + x^4 + x^3 + x^2 + 1", EdgesTest::productIsReduced);
        test("Terms", "A sum of multiples of shards is worked out byte by byte", EdgesTest::bytesStayApart);
        test("Terms", "Each STRIPE (0, 1, 2) has N shards", EdgesTest::stripesAreApart);
        test("Terms", "sets of shards whose rows add up to 0", EdgesTest::groupsRowsAddUpToNothing);
        test("Terms", "at first up", EdgesTest::nodesBeginUp);
        test("Terms", "node x stands in RACK x / 3, rounded down", EdgesTest::racksAreRoundedDown);
        test("Terms", "lies on node (5 * s + i) modulo 12", EdgesTest::nodesWrapAround);
        test("Terms", "DAMAGED if its content is not what was written to it latest", EdgesTest::damagedIsWhatDiffersFromTheLatestWrite);
        test("Terms", "(0 if nothing was)", EdgesTest::neverWrittenIsDamagedWhenNotNothing);
        test("Terms", "To READ a shard that is there adds 1 to the count of reads", EdgesTest::onlyWhatIsThereIsRead);
        test("Terms", "it is REJECTED: it is lost from then on", EdgesTest::rejectedIsLostFromThenOn);
        test("Terms", "it is there then, with this content", EdgesTest::writtenIsThereAndWhole);
        test("Terms", "(whether it is rejected or not)", EdgesTest::rejectedReadsCrossToo);
    }

    private static void plans() {
        test("Terms", "that are there (damaged or not)", EdgesTest::plansCountTheDamaged);
        test("Terms", "if it is in a group of which no other shard is lost", EdgesTest::localPlanNeedsAllOthersOfTheGroup);
        test("Terms", "the LOCAL plan: the others of the group", EdgesTest::localPlanNeedsNoRank);
        test("Terms", "if the rows of the shards that are there have rank 6", EdgesTest::globalPlanNeedsRankSix);
        test("Terms", "whose row is no sum of multiples of the rows of those taken before", EdgesTest::globalPlanLeavesOutWhatFollows);
        test("Terms", "until six are taken", EdgesTest::globalPlanEndsAtSix);
        test("Terms", "Otherwise there is none", EdgesTest::otherwiseThereIsNoPlan);
        test("Terms", "until one is rejected or all are read", EdgesTest::readingEndsAtTheRejectedOne);
        test("Terms", "a plan is chosen anew, and so on", EdgesTest::plansAreChosenAnew);
        test("Terms", "fails when there is no plan", EdgesTest::failsWhenThereIsNoPlan);
        test("Terms", "what the code says the shard is follows from what was read", EdgesTest::contentFollowsFromWhatWasRead);
    }

    private static void promises1To4() {
        test("1 A new object", "LOCAL for 1", EdgesTest::kindOneIsLocal);
        test("1 A new object", "WOVEN for 2", EdgesTest::kindTwoIsWoven);
        test("1 A new object", "PLAIN for any other kind", EdgesTest::anyOtherKindIsPlain);
        test("1 A new object", "All shards are there and 0, nothing was counted", EdgesTest::allIsThereAndNothingCounted);
        test("1 A new object", "A new object", EdgesTest::newObjectsOweNothingToOlderOnes);
        test("2 put", "-1 when there is no stripe s", EdgesTest::putNoStripe);
        test("2 put", "or i is not 0 .. 5", EdgesTest::putNoDataShard);
        test("2 put", "-2 when the shard is lost", EdgesTest::putLost);
        test("2 put", "if it is rejected, the answer is -3 and that is all", EdgesTest::putRejectedAndThatIsAll);
        test("2 put", "each further shard from 6 on that is there", EdgesTest::putOverLostCodedShards);
        test("2 put", "whose row has not 0 at place i", EdgesTest::putPassesByRowsWithNothingAtThePlace);
        test("2 put", "if it is not rejected, written", EdgesTest::putLosesRejectedCodedShards);
        test("2 put", "the sum of the old and the new content of shard i", EdgesTest::putAddsTheOldAndTheNew);
        test("3 fetch", "-1 when there is no stripe s", EdgesTest::fetchNoStripe);
        test("3 fetch", "or no shard i", EdgesTest::fetchNoShard);
        test("3 fetch", "the answer is 0 if it is not rejected", EdgesTest::fetchWhatIsThere);
        test("3 fetch", "If it is lost", EdgesTest::fetchWhatIsLost);
        test("3 fetch", "or was rejected now", EdgesTest::fetchWhatIsRejectedNow);
        test("3 fetch", "(nothing is written)", EdgesTest::fetchWritesNothing);
        test("3 fetch", "or -4 when that fails", EdgesTest::fetchThatFails);
        test("4 fetched", "the shard that was fetched latest", EdgesTest::fetchedLatest);
        test("4 fetched", "with an answer of 0 or more", EdgesTest::fetchedIsNotChangedByLesserAnswers);
        test("4 fetched", "fetched latest", EdgesTest::fetchedIsNotChangedByOtherCalls);
        test("4 fetched", "The content of the shard that was fetched latest", EdgesTest::fetchedStaysWhatWasFetched);
        test("4 fetched", "0 when none was", EdgesTest::fetchedNothing);
    }

    private static void promises5To8() {
        test("5 fail", "Answers how many were there", EdgesTest::failCountsWhatWasThere);
        test("5 fail", "all shards on it are lost", EdgesTest::failOfANodeWithLittleOnIt);
        test("5 fail", "-1 when there is no node x", EdgesTest::failNoNode);
        test("5 fail", "-2 when it is down", EdgesTest::failOfANodeThatIsDown);
        test("6 revive", "Node x is up again, with nothing on it", EdgesTest::reviveBringsNothingBack);
        test("6 revive", "False when there is no node x", EdgesTest::reviveNoNode);
        test("6 revive", "or it is up", EdgesTest::reviveOfANodeThatIsUp);
        test("7 damage", "Changes bit b (0 .. 63)", EdgesTest::damageChangesOneBit);
        test("7 damage", "without anybody noticing", EdgesTest::damageIsNotNoticed);
        test("7 damage", "(Changed twice it is as it was.)", EdgesTest::damageTwiceIsNone);
        test("7 damage", "False when there is no such shard", EdgesTest::damageOfNoShard);
        test("7 damage", "it is lost", EdgesTest::damageOfALostShard);
        test("7 damage", "or b is not 0 .. 63", EdgesTest::damageOfNoBit);
        test("8 repair", "-1 when there is no stripe s", EdgesTest::repairNoStripe);
        test("8 repair", "or no shard i", EdgesTest::repairNoShard);
        test("8 repair", "-2 when it is not lost", EdgesTest::repairOfWhatIsNotLost);
        test("8 repair", "-3 when its node is down", EdgesTest::repairWithTheNodeDown);
        test("8 repair", "it is written with what the code says it is", EdgesTest::repairWritesWhatTheCodeSays);
        test("8 repair", "the answer is how many plans were chosen", EdgesTest::repairAnswersThePlans);
        test("8 repair", "when it fails the answer is -4 (what was rejected meanwhile stays lost)", EdgesTest::repairThatFails);
    }

    private static void promises9To11() {
        test("9 mend", "As long as stripe s has a lost shard", EdgesTest::mendWithNothingToDo);
        test("9 mend", "whose node is up", EdgesTest::mendOnlyWhereTheNodeIsUp);
        test("9 mend", "and for which there is a plan", EdgesTest::mendOnlyWhereThereIsAPlan);
        test("9 mend", "As long as stripe s has a lost shard whose node is up and for which there is a plan", EdgesTest::mendAsLongAsThereIsAPlan);
        test("9 mend", "of these the one with the least number that has a local plan", EdgesTest::mendTakesLocalPlansFirst);
        test("9 mend", "the least number that has a local plan", EdgesTest::mendTakesTheLeastOfLocalPlans);
        test("9 mend", "or when none has, the one with the least number", EdgesTest::mendTakesTheLeastWithoutLocalPlans);
        test("9 mend", "(where that fails, it goes on likewise)", EdgesTest::mendGoesOnWhereOneFails);
        test("9 mend", "Answers how many shards were written", EdgesTest::mendAnswersWhatWasWritten);
        test("9 mend", "-1 when there is no stripe s", EdgesTest::mendNoStripe);
        test("10 scrub", "Reads every shard of stripe s that is there", EdgesTest::scrubReadsAllThatIsThere);
        test("10 scrub", "answers how many were rejected", EdgesTest::scrubAnswersTheRejected);
        test("10 scrub", "-1 when there is no stripe s", EdgesTest::scrubNoStripe);
        test("11 cost", "(nothing is read or counted)", EdgesTest::costCountsNothing);
        test("11 cost", "0 when it is not lost", EdgesTest::costOfWhatIsNotLost);
        test("11 cost", "-4 when there is no plan", EdgesTest::costWithoutAPlan);
        test("11 cost", "How many shards the plan for shard i of stripe s has", EdgesTest::costWithTheNodeDown);
        test("11 cost", "-1 when there is no stripe s or no shard i", EdgesTest::costNoShard);
    }

    private static void promises12To18() {
        test("12 rank", "The rank of the rows", EdgesTest::rankFromNothingToAll);
        test("12 rank", "The rank of the rows of the shards", EdgesTest::rankOfRowsThatFollowFromOthers);
        test("12 rank", "of the shards of stripe s that are there", EdgesTest::rankCountsTheDamaged);
        test("12 rank", "-1 when there is no stripe s", EdgesTest::rankNoStripe);
        test("13 lost", "one bit each (bit i for shard i)", EdgesTest::lostHasABitForEachShard);
        test("13 lost", "-1 when there is no stripe s", EdgesTest::lostNoStripe);
        test("14 content", "as it lies on its node (this is no read)", EdgesTest::contentIsNoRead);
        test("14 content", "0 when there is no such shard", EdgesTest::contentOfNoShard);
        test("14 content", "or it is lost", EdgesTest::contentOfALostShard);
        test("15 node", "The node of shard i of stripe s", EdgesTest::nodeOfEachShard);
        test("15 node", "-1 when there is no stripe s or no shard i", EdgesTest::nodeOfNoShard);
        test("16 up", "Whether node x is up", EdgesTest::upOfEachNode);
        test("16 up", "false also when there is none", EdgesTest::upOfNoNode);
        test("17 count", "the reads (0), the writes (1), the crossings (2), the plans (3)", EdgesTest::countEachByItself);
        test("17 count", "-1 for any other number", EdgesTest::countNoSuch);
        test("18 size", "N", EdgesTest::sizeIsN);
    }

    public static void main(String[] args) {
        terms();
        plans();
        promises1To4();
        promises5To8();
        promises9To11();
        promises12To18();
        System.out.println(sentences + " sentences, " + wrong + " answers that are not as due");
        if (wrong != 0) {
            System.exit(1);
        }
    }
}
