/** Each promise of the document: ordinary inputs, the edges that it names, and wrong inputs. */
public final class PromisesTest {
    private static final int PLAIN = 0;
    private static final int LOCAL = 1;
    private static final int WOVEN = 2;
    private static final int[] NO_STRIPES = {-1, 3, Integer.MIN_VALUE, Integer.MAX_VALUE};
    private static final int[] NO_NODES = {-1, 12, Integer.MIN_VALUE, Integer.MAX_VALUE};
    private static final long LONG_ROW = 0x8001FF1D7F02A503L;

    private static int wrong = 0;
    private static String promise = "";

    private static void due(String call, long got, long want) {
        if (got != want) {
            wrong++;
            System.out.println(promise + ": " + call + " answered " + got + ", due is " + want);
        }
    }

    private static void due(String call, boolean got, boolean want) {
        if (got != want) {
            wrong++;
            System.out.println(promise + ": " + call + " answered " + got + ", due is " + want);
        }
    }

    private static void dueCounts(String when, RepairGroups x, int reads, int writes, int crossings, int plans) {
        due(when + ", count(0)", x.count(0), reads);
        due(when + ", count(1)", x.count(1), writes);
        due(when + ", count(2)", x.count(2), crossings);
        due(when + ", count(3)", x.count(3), plans);
    }

    private static int product(int a, int b) {
        int sum = 0;
        for (int i = 0; i < 8; i++) {
            if ((b >> i & 1) != 0) {
                sum ^= a << i;
            }
        }
        for (int i = 14; i >= 8; i--) {
            if ((sum >> i & 1) != 0) {
                sum ^= 0x11D << i - 8;
            }
        }
        return sum;
    }

    private static long product(int a, long shard) {
        long answer = 0;
        for (int j = 0; j < 8; j++) {
            answer |= (long) product(a, (int) (shard >>> 8 * j) & 255) << 8 * j;
        }
        return answer;
    }

    private static int inverse(int a) {
        for (int b = 1; b < 256; b++) {
            if (product(a, b) == 1) {
                return b;
            }
        }
        return 0;
    }

    private static int rowByte(int kind, int i, int place) {
        if (i < 6) {
            return i == place ? 1 : 0;
        }
        if (kind != LOCAL && kind != WOVEN) {
            return inverse(i + 2 ^ place);
        }
        if (i < 8) {
            return place / 3 == i - 6 ? 1 : 0;
        }
        return i == 10 ? inverse(8 ^ place) ^ inverse(9 ^ place) : inverse(i ^ place);
    }

    private static long dataOf(int s, int i) {
        return LONG_ROW * (2 * i + 1) + 77777777777L * s;
    }

    private static long codeSays(int kind, int s, int i) {
        long sum = 0;
        for (int place = 0; place < 6; place++) {
            sum ^= product(rowByte(kind, i, place), dataOf(s, place));
        }
        return sum;
    }

    private static RepairGroups filled(int kind) {
        RepairGroups x = new RepairGroups(kind);
        for (int s = 0; s < 3; s++) {
            for (int i = 0; i < 6; i++) {
                x.put(s, i, dataOf(s, i));
            }
        }
        return x;
    }

    /** Loses what lies on these nodes; they are up again. */
    private static void wipe(RepairGroups x, int... nodes) {
        for (int node : nodes) {
            x.fail(node);
            x.revive(node);
        }
    }

    private static void newObject() {
        promise = "1 A new object";
        int[] kinds = {0, 1, 2, 3, -1, 4, Integer.MIN_VALUE, Integer.MAX_VALUE};
        for (int kind : kinds) {
            RepairGroups x = new RepairGroups(kind);
            String of = "kind " + kind + ", ";
            dueCounts(of + "new", x, 0, 0, 0, 0);
            due(of + "fetched()", x.fetched(), 0);
            for (int s = 0; s < 3; s++) {
                due(of + "lost(" + s + ")", x.lost(s), 0);
                due(of + "rank(" + s + ")", x.rank(s), 6);
                for (int i = 0; i < x.size(); i++) {
                    due(of + "content(" + s + ", " + i + ")", x.content(s, i), 0);
                    due(of + "cost(" + s + ", " + i + ")", x.cost(s, i), 0);
                }
                due(of + "scrub(" + s + ")", x.scrub(s), 0);
            }
            for (int node = 0; node < 12; node++) {
                due(of + "up(" + node + ")", x.up(node), true);
            }
            newObjectsRows(kind);
            newObjectsGroups(kind);
        }
    }

    private static void newObjectsRows(int kind) {
        for (int place = 0; place < 6; place++) {
            RepairGroups x = new RepairGroups(kind);
            x.put(1, place, 1);
            for (int i = 0; i < x.size(); i++) {
                due("kind " + kind + ", row of " + i + " at " + place, x.content(1, i), rowByte(kind, i, place));
            }
        }
    }

    private static void newObjectsGroups(int kind) {
        for (int i = 0; i < new RepairGroups(kind).size(); i++) {
            RepairGroups x = new RepairGroups(kind);
            x.fail(i);
            int want = kind == LOCAL && i < 8 || kind == WOVEN && i < 8 ? 3 : kind == WOVEN ? 2 : 6;
            due("kind " + kind + ", cost of " + i, x.cost(0, i), want);
        }
    }

    private static void put() {
        promise = "2 put";
        RepairGroups x = new RepairGroups(LOCAL);
        due("put(0, 0)", x.put(0, 0, LONG_ROW), 3);
        dueCounts("put(0, 0)", x, 4, 4, 3, 0);
        due("put(0, 5)", x.put(0, 5, -1L), 3);
        dueCounts("put(0, 5)", x, 8, 8, 6, 0);
        due("put(0, 0) again", x.put(0, 0, 7L), 3);
        due("content(0, 0)", x.content(0, 0), 7);
        due("content(0, 6)", x.content(0, 6), 7);
        due("content(0, 7)", x.content(0, 7), -1L);
        due("content(0, 8)", x.content(0, 8), product(inverse(8), 7L) ^ product(inverse(13), -1L));
        due("content(0, 9)", x.content(0, 9), product(inverse(9), 7L) ^ product(inverse(12), -1L));
        // Stripe 1 has data shard 4 on node 9 and the shards 6, 7, 8, 9 on the nodes 11, 0, 1, 2.
        RepairGroups plain = new RepairGroups(PLAIN);
        due("put(1, 4) of PLAIN", plain.put(1, 4, 1L), 4);
        dueCounts("put(1, 4) of PLAIN", plain, 5, 5, 3, 0);
        due("put(2, 2) of WOVEN", new RepairGroups(WOVEN).put(2, 2, 1L), 4);
        for (int kind = 0; kind < 3; kind++) {
            RepairGroups full = filled(kind);
            for (int s = 0; s < 3; s++) {
                for (int i = 0; i < full.size(); i++) {
                    due("kind " + kind + ", content(" + s + ", " + i + ")", full.content(s, i), codeSays(kind, s, i));
                }
            }
        }
        putRefused();
        putOverLostAndDamaged();
    }

    private static void putRefused() {
        RepairGroups x = new RepairGroups(WOVEN);
        for (int s : NO_STRIPES) {
            due("put(" + s + ", 0)", x.put(s, 0, 9L), -1);
        }
        int[] noData = {-1, 6, 10, 11, Integer.MIN_VALUE, Integer.MAX_VALUE};
        for (int i : noData) {
            due("put(0, " + i + ")", x.put(0, i, 9L), -1);
        }
        wipe(x, 2);
        due("put of a lost shard", x.put(0, 2, 9L), -2);
        due("put of a lost shard, lost(0)", x.lost(0), 4);
        due("put of a lost shard, content(0, 6)", x.content(0, 6), 0);
        dueCounts("refused", x, 0, 0, 0, 0);
        x.damage(1, 3, 63);
        due("put of a damaged shard", x.put(1, 3, 9L), -3);
        due("put of a damaged shard, lost(1)", x.lost(1), 0x208);
        due("put of a damaged shard, content(1, 7)", x.content(1, 7), 0);
        dueCounts("put of a damaged shard", x, 1, 0, 0, 0);
        due("put of it again", x.put(1, 3, 9L), -2);
    }

    private static void putOverLostAndDamaged() {
        RepairGroups x = new RepairGroups(LOCAL);
        wipe(x, 8);
        x.damage(0, 9, 1);
        x.damage(0, 1, 1);
        due("put with 8 lost and 9 damaged", x.put(0, 0, 5L), 1);
        due("then lost(0)", x.lost(0), 0x300);
        due("then content(0, 6)", x.content(0, 6), 5);
        due("then content(0, 1)", x.content(0, 1), 2);
        // Reads of 0, 6 and 9, the last two across racks; writes of 6 and 0.
        dueCounts("put with 8 lost and 9 damaged", x, 3, 2, 2, 0);
        // A shard whose row has 0 at the place is not even read, so its damage stays unseen.
        x.damage(0, 7, 4);
        due("put beside a damaged shard 7", x.put(0, 2, 1L), 1);
        due("then lost(0)", x.lost(0), 0x300);
        due("put over a damaged shard 7", x.put(0, 3, 1L), 0);
        due("then lost(0)", x.lost(0), 0x380);
        due("then content(0, 3)", x.content(0, 3), 1);
    }

    private static void fetch() {
        promise = "3 fetch";
        RepairGroups x = filled(WOVEN);
        int[] before = {x.count(0), x.count(1), x.count(2)};
        due("fetch(2, 10)", x.fetch(2, 10), 0);
        dueCounts("fetch(2, 10)", x, before[0] + 1, before[1], before[2], 0);
        due("fetched()", x.fetched(), codeSays(WOVEN, 2, 10));
        for (int s : NO_STRIPES) {
            due("fetch(" + s + ", 0)", x.fetch(s, 0), -1);
        }
        int[] noShards = {-1, 11, Integer.MIN_VALUE, Integer.MAX_VALUE};
        for (int i : noShards) {
            due("fetch(0, " + i + ")", x.fetch(0, i), -1);
        }
        due("fetch(0, 10) of LOCAL", new RepairGroups(LOCAL).fetch(0, 10), -1);
        due("fetch(0, 10) of PLAIN", new RepairGroups(PLAIN).fetch(0, 10), -1);
        dueCounts("fetch refused", x, before[0] + 1, before[1], before[2], 0);
        x.damage(0, 4, 17);
        due("fetch of a damaged shard", x.fetch(0, 4), 1);
        due("then fetched()", x.fetched(), dataOf(0, 4));
        due("then lost(0)", x.lost(0), 16);
        // Its own read is for nobody; of 3, 5 and 7 only 7 is in another rack than 4.
        dueCounts("fetch of a damaged shard", x, before[0] + 5, before[1], before[2] + 1, 1);
        fetchFollowsPlans();
        fetchEveryLoss();
    }

    private static void fetchFollowsPlans() {
        RepairGroups x = new RepairGroups(PLAIN);
        x.fail(0);
        x.fail(1);
        x.damage(0, 2, 0);
        x.damage(0, 9, 0);
        x.damage(0, 8, 0);
        // 2 is rejected by the first plan, 8 by the second (3 .. 8), 9 by the third (3 .. 7 and 9).
        due("fetch with three damaged", x.fetch(0, 0), -4);
        due("then lost(0)", x.lost(0), 0x307);
        due("then cost(0, 0)", x.cost(0, 0), -4);
        dueCounts("fetch with three damaged", x, 1 + 6 + 6, 0, 0 + 6 + 6, 3);
        due("fetch without a plan", x.fetch(0, 0), -4);
        dueCounts("fetch without a plan", x, 13, 0, 12, 3);
    }

    private static void fetchEveryLoss() {
        for (int kind = 0; kind < 3; kind++) {
            int n = kind == WOVEN ? 11 : 10;
            for (int a = 0; a < n; a++) {
                for (int b = a; b < n; b++) {
                    RepairGroups x = filled(kind);
                    x.fail(a);
                    x.fail(b);
                    String with = "kind " + kind + " without " + a + " and " + b + ", ";
                    due(with + "fetch(0, " + a + ")", x.fetch(0, a), 1);
                    due(with + "fetched()", x.fetched(), codeSays(kind, 0, a));
                    due(with + "fetch(0, " + b + ")", x.fetch(0, b), 1);
                    due(with + "fetched()", x.fetched(), codeSays(kind, 0, b));
                }
            }
        }
    }

    private static void fetched() {
        promise = "4 fetched";
        RepairGroups x = filled(PLAIN);
        due("fetched() before", x.fetched(), 0);
        x.fetch(0, 6);
        due("fetched()", x.fetched(), codeSays(PLAIN, 0, 6));
        x.fetch(0, 10);
        x.fetch(3, 0);
        due("fetched() after a refusal", x.fetched(), codeSays(PLAIN, 0, 6));
        x.fetch(1, 3);
        due("fetched()", x.fetched(), dataOf(1, 3));
        x.put(1, 3, 1L);
        x.fail(8);
        due("fetched() after a put and a failure", x.fetched(), dataOf(1, 3));
        x.fetch(1, 3);
        due("fetched() by a plan", x.fetched(), 1);
        wipe(x, 0, 1, 2, 3, 4);
        due("fetch without a plan", x.fetch(0, 0), -4);
        due("fetched() after it", x.fetched(), 1);
        x.fetch(0, 5);
        x.fetch(0, 0);
        due("fetched() after one that is there and one without a plan", x.fetched(), dataOf(0, 5));
        due("repair(1, 9)", x.repair(1, 9), 1);
        due("fetched() after a repair", x.fetched(), dataOf(0, 5));
    }

    private static void fail() {
        promise = "5 fail";
        RepairGroups x = filled(PLAIN);
        for (int node : NO_NODES) {
            due("fail(" + node + ")", x.fail(node), -1);
        }
        for (int node = 0; node < 12; node++) {
            due("fail(" + node + ") of PLAIN", filled(PLAIN).fail(node), nodesShards(10, node));
            due("fail(" + node + ") of WOVEN", filled(WOVEN).fail(node), nodesShards(11, node));
        }
        due("fail(11)", x.fail(11), 2);
        due("then up(11)", x.up(11), false);
        due("then lost(0)", x.lost(0), 0);
        due("then lost(1)", x.lost(1), 1 << 6);
        due("then lost(2)", x.lost(2), 1 << 1);
        due("fail(11) again", x.fail(11), -2);
        x.revive(11);
        due("fail(11) with nothing on it", x.fail(11), 0);
        x.damage(0, 7, 3);
        x.scrub(0);
        due("fail(7) with one shard rejected before", x.fail(7), 2);
        dueCounts("fail", x, 90 + 10, 90, crossingsOfFilled(), 0);
    }

    private static int crossingsOfFilled() {
        return filled(PLAIN).count(2);
    }

    private static int nodesShards(int n, int node) {
        int shards = 0;
        for (int s = 0; s < 3; s++) {
            for (int i = 0; i < n; i++) {
                shards += (5 * s + i) % 12 == node ? 1 : 0;
            }
        }
        return shards;
    }

    private static void revive() {
        promise = "6 revive";
        RepairGroups x = filled(LOCAL);
        for (int node : NO_NODES) {
            due("revive(" + node + ")", x.revive(node), false);
        }
        due("revive(4) while up", x.revive(4), false);
        x.fail(4);
        due("revive(4)", x.revive(4), true);
        due("up(4)", x.up(4), true);
        due("lost(0)", x.lost(0), 16);
        due("content(0, 4)", x.content(0, 4), 0);
        due("revive(4) again", x.revive(4), false);
        x.fail(0);
        x.fail(11);
        due("revive(0)", x.revive(0), true);
        due("up(11)", x.up(11), false);
        due("revive(11)", x.revive(11), true);
    }

    private static void damage() {
        promise = "7 damage";
        RepairGroups x = filled(WOVEN);
        int[] before = {x.count(0), x.count(1), x.count(2)};
        for (int s : NO_STRIPES) {
            due("damage(" + s + ", 0, 0)", x.damage(s, 0, 0), false);
        }
        int[] noShards = {-1, 11, Integer.MIN_VALUE, Integer.MAX_VALUE};
        for (int i : noShards) {
            due("damage(0, " + i + ", 0)", x.damage(0, i, 0), false);
        }
        int[] noBits = {-1, 64, Integer.MIN_VALUE, Integer.MAX_VALUE};
        for (int b : noBits) {
            due("damage(0, 0, " + b + ")", x.damage(0, 0, b), false);
        }
        due("content(0, 0)", x.content(0, 0), dataOf(0, 0));
        due("damage(0, 10, 0) of LOCAL", new RepairGroups(LOCAL).damage(0, 10, 0), false);
        for (int b = 0; b < 64; b++) {
            due("damage(0, 10, " + b + ")", x.damage(0, 10, b), true);
            due("content(0, 10)", x.content(0, 10), codeSays(WOVEN, 0, 10) ^ 1L << b);
            due("damage(0, 10, " + b + ") again", x.damage(0, 10, b), true);
        }
        due("lost(0)", x.lost(0), 0);
        due("scrub(0) after damage twice", x.scrub(0), 0);
        x.damage(0, 10, 1);
        x.damage(0, 10, 2);
        due("lost(0)", x.lost(0), 0);
        dueCounts("damage", x, before[0] + 11, before[1], before[2], 0);
        due("scrub(0)", x.scrub(0), 1);
        due("damage of a lost shard", x.damage(0, 10, 1), false);
        due("repair(0, 10)", x.repair(0, 10), 1);
        due("content(0, 10)", x.content(0, 10), codeSays(WOVEN, 0, 10));
        due("scrub(0)", x.scrub(0), 0);
        due("damage(0, 10, 1) after repair", x.damage(0, 10, 1), true);
        due("fetch(0, 10)", x.fetch(0, 10), 1);
    }

    private static void repair() {
        promise = "8 repair";
        RepairGroups x = new RepairGroups(LOCAL);
        for (int s : NO_STRIPES) {
            due("repair(" + s + ", 0)", x.repair(s, 0), -1);
        }
        int[] noShards = {-1, 10, 11, Integer.MIN_VALUE, Integer.MAX_VALUE};
        for (int i : noShards) {
            due("repair(0, " + i + ")", x.repair(0, i), -1);
        }
        due("repair(0, 3)", x.repair(0, 3), -2);
        x.damage(0, 3, 0);
        due("repair of a damaged shard", x.repair(0, 3), -2);
        x.damage(0, 3, 0);
        x.fail(3);
        due("repair with its node down", x.repair(0, 3), -3);
        dueCounts("refused", x, 0, 0, 0, 0);
        x.revive(3);
        due("repair by a local plan", x.repair(0, 3), 1);
        dueCounts("repair by a local plan", x, 3, 1, 1, 1);
        due("then lost(0)", x.lost(0), 0);
        repairWithRejected();
        repairThatFails();
        repairEveryLoss();
    }

    private static void repairWithRejected() {
        RepairGroups x = new RepairGroups(LOCAL);
        wipe(x, 3);
        x.damage(0, 7, 0);
        due("repair with 7 damaged", x.repair(0, 3), 2);
        due("then lost(0)", x.lost(0), 128);
        // 4, 5, 7 and then 0, 1, 2, 4, 5, 8 (6 follows from 0, 1, 2); the rejected read crosses too.
        dueCounts("repair with 7 damaged", x, 9, 1, 5, 2);
    }

    private static void repairThatFails() {
        RepairGroups x = new RepairGroups(PLAIN);
        wipe(x, 0, 1, 2, 3);
        x.damage(0, 9, 5);
        due("repair with 9 damaged", x.repair(0, 0), -4);
        due("then lost(0)", x.lost(0), 0x20F);
        dueCounts("repair with 9 damaged", x, 6, 0, 6, 1);
        due("repair without a plan", x.repair(0, 0), -4);
        dueCounts("repair without a plan", x, 6, 0, 6, 1);
        RepairGroups y = new RepairGroups(PLAIN);
        wipe(y, 0, 1, 2, 3);
        y.damage(0, 4, 5);
        due("repair with 4 damaged", y.repair(0, 0), -4);
        dueCounts("repair with 4 damaged", y, 1, 0, 1, 1);
    }

    private static void repairEveryLoss() {
        for (int kind = 0; kind < 3; kind++) {
            int n = kind == WOVEN ? 11 : 10;
            for (int set = 1; set < 1 << n; set++) {
                if (Integer.bitCount(set) != 3) {
                    continue;
                }
                RepairGroups x = filled(kind);
                for (int i = 0; i < n; i++) {
                    if ((set >> i & 1) != 0) {
                        wipe(x, i);
                    }
                }
                String with = "kind " + kind + " without the set " + set + ", ";
                for (int i = 0; i < n; i++) {
                    if ((set >> i & 1) != 0) {
                        due(with + "repair(0, " + i + ")", x.repair(0, i), 1);
                        due(with + "content(0, " + i + ")", x.content(0, i), codeSays(kind, 0, i));
                    }
                }
                due(with + "lost(0)", x.lost(0), 0);
            }
        }
    }

    private static void mend() {
        promise = "9 mend";
        RepairGroups x = new RepairGroups(LOCAL);
        for (int s : NO_STRIPES) {
            due("mend(" + s + ")", x.mend(s), -1);
        }
        due("mend(0) of a whole stripe", x.mend(0), 0);
        dueCounts("mend(0) of a whole stripe", x, 0, 0, 0, 0);
        wipe(x, 0, 1, 3);
        x.damage(0, 7, 0);
        // 3 (4, 5, 7 and, as 7 is rejected, 2, 4, 5, 6, 8, 9), 7 (3, 4, 5), 0 (2, 3, 4, 5, 6, 8), 1 (0, 2, 6).
        due("mend(0)", x.mend(0), 4);
        due("then lost(0)", x.lost(0), 0);
        dueCounts("mend(0)", x, 21, 4, 1 + 4 + 3 + 5 + 1, 5);
        mendGoesOnAfterFailure();
        mendLeavesWhatIsDown();
        mendContents();
    }

    private static void mendGoesOnAfterFailure() {
        RepairGroups x = new RepairGroups(LOCAL);
        wipe(x, 0, 1, 2);
        x.damage(0, 3, 0);
        x.damage(0, 8, 0);
        // 0 fails: 3 is rejected, then 8 by 4, 5, 6, 7, 8. But 3 has a local plan then: 4, 5, 7.
        due("mend(0) with 3 and 8 damaged", x.mend(0), 1);
        due("then lost(0)", x.lost(0), 0x107);
        dueCounts("mend(0) with 3 and 8 damaged", x, 9, 1, 1 + 5 + 1, 3);
        RepairGroups y = new RepairGroups(PLAIN);
        wipe(y, 0, 1, 2, 3);
        y.damage(0, 4, 0);
        due("mend(0) that only fails", y.mend(0), 0);
        dueCounts("mend(0) that only fails", y, 1, 0, 1, 1);
    }

    private static void mendLeavesWhatIsDown() {
        RepairGroups x = filled(WOVEN);
        x.fail(0);
        x.fail(1);
        x.fail(8);
        x.revive(1);
        due("mend(0) with two nodes down", x.mend(0), 1);
        due("then lost(0)", x.lost(0), 0x101);
        due("then content(0, 1)", x.content(0, 1), dataOf(0, 1));
        due("mend(0) again", x.mend(0), 0);
        x.revive(0);
        x.revive(8);
        due("mend(0) with all up", x.mend(0), 2);
        due("then content(0, 8)", x.content(0, 8), codeSays(WOVEN, 0, 8));
        // Local plans serve even where the rank is too low for a global one.
        RepairGroups y = filled(LOCAL);
        wipe(y, 0, 1, 2, 3, 6);
        due("rank(0)", y.rank(0), 5);
        due("mend(0) below rank 6", y.mend(0), 1);
        due("then lost(0)", y.lost(0), 0x47);
        due("then content(0, 3)", y.content(0, 3), dataOf(0, 3));
    }

    private static void mendContents() {
        for (int kind = 0; kind < 3; kind++) {
            RepairGroups x = filled(kind);
            wipe(x, 0, 4, 8);
            for (int s = 0; s < 3; s++) {
                due("kind " + kind + ", mend(" + s + ")", x.mend(s), s == 0 ? 3 : bitsOfStripe(s, x.size()));
                for (int i = 0; i < x.size(); i++) {
                    due("kind " + kind + ", content(" + s + ", " + i + ")", x.content(s, i), codeSays(kind, s, i));
                }
            }
        }
    }

    private static int bitsOfStripe(int s, int n) {
        int shards = 0;
        for (int i = 0; i < n; i++) {
            shards += (5 * s + i) % 12 % 4 == 0 ? 1 : 0;
        }
        return shards;
    }

    private static void scrub() {
        promise = "10 scrub";
        RepairGroups x = new RepairGroups(WOVEN);
        for (int s : NO_STRIPES) {
            due("scrub(" + s + ")", x.scrub(s), -1);
        }
        dueCounts("refused", x, 0, 0, 0, 0);
        due("scrub(1)", x.scrub(1), 0);
        dueCounts("scrub(1)", x, 11, 0, 0, 0);
        x.damage(1, 0, 0);
        x.damage(1, 10, 63);
        x.damage(2, 5, 1);
        x.fail(6);
        due("scrub(1) with two damaged and one lost", x.scrub(1), 2);
        due("lost(1)", x.lost(1), 0x403);
        due("lost(2)", x.lost(2), 0x100);
        dueCounts("scrub(1) with two damaged and one lost", x, 21, 0, 0, 0);
        due("scrub(1) again", x.scrub(1), 0);
        dueCounts("scrub(1) again", x, 29, 0, 0, 0);
    }

    private static void cost() {
        promise = "11 cost";
        RepairGroups x = new RepairGroups(WOVEN);
        for (int s : NO_STRIPES) {
            due("cost(" + s + ", 0)", x.cost(s, 0), -1);
        }
        int[] noShards = {-1, 11, Integer.MIN_VALUE, Integer.MAX_VALUE};
        for (int i : noShards) {
            due("cost(0, " + i + ")", x.cost(0, i), -1);
        }
        due("cost(0, 10) of LOCAL", new RepairGroups(LOCAL).cost(0, 10), -1);
        due("cost(0, 0)", x.cost(0, 0), 0);
        x.damage(0, 0, 0);
        due("cost of a damaged shard", x.cost(0, 0), 0);
        x.fail(1);
        due("cost in a group with a damaged shard", x.cost(0, 1), 3);
        x.fail(2);
        due("cost with two of a group lost", x.cost(0, 1), 6);
        x.fail(8);
        due("cost of 8", x.cost(0, 8), 2);
        x.fail(9);
        due("cost of 8 without 9", x.cost(0, 8), 6);
        x.fail(10);
        due("cost of 1 without 8, 9, 10", x.cost(0, 1), -4);
        due("cost of 10", x.cost(0, 10), -4);
        due("lost(0)", x.lost(0), 0x706);
        x.fail(7);
        due("cost of 7", x.cost(0, 7), 3);
        dueCounts("cost", x, 0, 0, 0, 0);
        RepairGroups local = new RepairGroups(LOCAL);
        local.fail(9);
        due("cost of 9 of LOCAL", local.cost(0, 9), 6);
        // Row 10 has the same byte at the places 0 and 1, so 6 and 10 do not tell 0 and 1 apart.
        RepairGroups woven = new RepairGroups(WOVEN);
        wipe(woven, 0, 1, 8, 9);
        due("cost of 0 without 1, 8, 9", woven.cost(0, 0), -4);
    }

    private static void rank() {
        promise = "12 rank";
        RepairGroups x = new RepairGroups(LOCAL);
        for (int s : NO_STRIPES) {
            due("rank(" + s + ")", x.rank(s), -1);
        }
        x.fail(0);
        x.fail(1);
        due("rank(0) without 0, 1", x.rank(0), 6);
        x.fail(2);
        due("rank(0) without 0, 1, 2", x.rank(0), 6);
        x.fail(6);
        due("rank(0) without 0, 1, 2, 6", x.rank(0), 5);
        x.fail(3);
        due("rank(0) without 3 too", x.rank(0), 5);
        x.fail(7);
        due("rank(0) without 7 too", x.rank(0), 4);
        x.damage(0, 8, 1);
        due("rank(0) with 8 damaged", x.rank(0), 4);
        for (int node = 0; node < 12; node++) {
            x.fail(node);
        }
        for (int s = 0; s < 3; s++) {
            due("rank(" + s + ") of nothing", x.rank(s), 0);
        }
        dueCounts("rank", x, 0, 0, 0, 0);
        RepairGroups woven = new RepairGroups(WOVEN);
        wipe(woven, 0, 1, 2, 3, 4, 5, 6, 7);
        due("rank(0) of 8, 9, 10", woven.rank(0), 2);
        for (int set = 0; set < 1 << 10; set++) {
            RepairGroups plain = new RepairGroups(PLAIN);
            for (int i = 0; i < 10; i++) {
                if ((set >> i & 1) != 0) {
                    plain.fail(i);
                }
            }
            due("rank(0) of PLAIN without the set " + set, plain.rank(0), Math.min(6, 10 - Integer.bitCount(set)));
        }
    }

    private static void lost() {
        promise = "13 lost";
        RepairGroups x = new RepairGroups(WOVEN);
        for (int s : NO_STRIPES) {
            due("lost(" + s + ")", x.lost(s), -1);
        }
        x.fail(3);
        due("lost(0)", x.lost(0), 1 << 3);
        due("lost(1)", x.lost(1), 1 << 10);
        due("lost(2)", x.lost(2), 1 << 5);
        x.damage(0, 0, 5);
        due("lost(0) with a shard damaged", x.lost(0), 1 << 3);
        x.fetch(0, 0);
        due("lost(0) with it rejected", x.lost(0), 1 << 3 | 1);
        for (int node = 0; node < 12; node++) {
            x.fail(node);
        }
        for (int s = 0; s < 3; s++) {
            due("lost(" + s + ") of nothing", x.lost(s), 0x7FF);
        }
    }

    private static void content() {
        promise = "14 content";
        RepairGroups x = filled(LOCAL);
        int[] before = {x.count(0), x.count(1), x.count(2)};
        for (int s : NO_STRIPES) {
            due("content(" + s + ", 0)", x.content(s, 0), 0);
        }
        int[] noShards = {-1, 10, Integer.MIN_VALUE, Integer.MAX_VALUE};
        for (int i : noShards) {
            due("content(0, " + i + ")", x.content(0, i), 0);
        }
        due("content(1, 7)", x.content(1, 7), codeSays(LOCAL, 1, 7));
        x.damage(1, 7, 63);
        due("content(1, 7) damaged", x.content(1, 7), codeSays(LOCAL, 1, 7) ^ Long.MIN_VALUE);
        due("lost(1)", x.lost(1), 0);
        dueCounts("content", x, before[0], before[1], before[2], 0);
        x.fail(0);
        due("content(1, 7) lost", x.content(1, 7), 0);
        x.revive(0);
        due("content(1, 7) still lost", x.content(1, 7), 0);
        x.damage(2, 0, 0);
        x.scrub(2);
        due("content(2, 0) rejected", x.content(2, 0), 0);
    }

    private static void node() {
        promise = "15 node";
        int[][] want = {
            {0, 1, 2, 3, 4, 5, 6, 7, 8, 9, 10},
            {5, 6, 7, 8, 9, 10, 11, 0, 1, 2, 3},
            {10, 11, 0, 1, 2, 3, 4, 5, 6, 7, 8},
        };
        RepairGroups x = new RepairGroups(WOVEN);
        for (int s = 0; s < 3; s++) {
            for (int i = 0; i < 11; i++) {
                due("node(" + s + ", " + i + ")", x.node(s, i), want[s][i]);
            }
        }
        x.fail(5);
        due("node(1, 0) while down", x.node(1, 0), 5);
        for (int s : NO_STRIPES) {
            due("node(" + s + ", 0)", x.node(s, 0), -1);
        }
        int[] noShards = {-1, 11, Integer.MIN_VALUE, Integer.MAX_VALUE};
        for (int i : noShards) {
            due("node(2, " + i + ")", x.node(2, i), -1);
        }
        due("node(0, 10) of PLAIN", new RepairGroups(PLAIN).node(0, 10), -1);
        due("node(0, 9) of PLAIN", new RepairGroups(PLAIN).node(0, 9), 9);
    }

    private static void up() {
        promise = "16 up";
        RepairGroups x = new RepairGroups(PLAIN);
        for (int node : NO_NODES) {
            due("up(" + node + ")", x.up(node), false);
        }
        for (int node = 0; node < 12; node++) {
            due("up(" + node + ")", x.up(node), true);
            x.fail(node);
            due("up(" + node + ") after fail", x.up(node), false);
            x.revive(node);
            due("up(" + node + ") after revive", x.up(node), true);
        }
    }

    private static void count() {
        promise = "17 count";
        RepairGroups x = new RepairGroups(WOVEN);
        int[] noCounts = {-1, 4, Integer.MIN_VALUE, Integer.MAX_VALUE};
        for (int which : noCounts) {
            due("count(" + which + ")", x.count(which), -1);
        }
        x.put(0, 0, 1L);
        dueCounts("put", x, 5, 5, 4, 0);
        wipe(x, 0);
        x.fetch(0, 0);
        dueCounts("fetch by a plan", x, 8, 5, 5, 1);
        x.repair(0, 0);
        dueCounts("repair", x, 11, 6, 6, 2);
        x.scrub(0);
        dueCounts("scrub", x, 22, 6, 6, 2);
        // Stripe 1 has lost 7 with node 0 and loses 6 with node 11; all they are made from is in other racks.
        wipe(x, 11);
        x.mend(1);
        dueCounts("mend", x, 28, 8, 12, 4);
    }

    private static void size() {
        promise = "18 size";
        due("size() of PLAIN", new RepairGroups(0).size(), 10);
        due("size() of LOCAL", new RepairGroups(1).size(), 10);
        due("size() of WOVEN", new RepairGroups(2).size(), 11);
        due("size() of kind 3", new RepairGroups(3).size(), 10);
        due("size() of kind -2", new RepairGroups(-2).size(), 10);
        RepairGroups x = new RepairGroups(2);
        x.fail(10);
        due("size() with a shard lost", x.size(), 11);
    }

    public static void main(String[] args) {
        newObject();
        put();
        fetch();
        fetched();
        fail();
        revive();
        damage();
        repair();
        mend();
        scrub();
        cost();
        rank();
        lost();
        content();
        node();
        up();
        count();
        size();
        System.out.println(wrong == 0 ? "all answers are as due" : wrong + " answers are not as due");
        if (wrong != 0) {
            System.exit(1);
        }
    }
}
