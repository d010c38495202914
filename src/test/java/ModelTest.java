import java.util.Arrays;
import java.util.Random;

/**
 * Long runs of mixed calls, and every set of lost or damaged shards that a stripe can have, each
 * call answered also by a slow second program that is written from the document in another way: it multiplies by a table of powers, finds ranks by clearing columns,
 * and knows what the code says from the data that was written, without decoding.
 */
public final class ModelTest {
    // The document leaves free what an object answers after so many calls, so none is asked more.
    private static final int CALLS = 512;
    private static final int CALLS_OF_A_LOOK = 173;
    private static final int RUNS = 6000;

    private static final class Model {
        final int n;
        final int[][] row;
        final int[][] groups;
        final long[][] written;
        final long[][] now;
        final boolean[][] gone;
        final boolean[] down = new boolean[12];
        final int[] counted = new int[4];
        final int[] power = new int[255];
        final int[] exponent = new int[256];
        long got = 0;

        Model(int kind) {
            int value = 1;
            for (int e = 0; e < 255; e++) {
                power[e] = value;
                exponent[value] = e;
                value = value * 2 >= 256 ? value * 2 ^ 0x11D : value * 2;
            }
            n = kind == 2 ? 11 : 10;
            row = new int[n][6];
            for (int i = 0; i < 6; i++) {
                row[i][i] = 1;
                if (kind == 1 || kind == 2) {
                    row[i < 3 ? 6 : 7][i] = 1;
                    row[8][i] = inverse(8 ^ i);
                    row[9][i] = inverse(9 ^ i);
                } else {
                    row[6][i] = inverse(8 ^ i);
                    row[7][i] = inverse(9 ^ i);
                    row[8][i] = inverse(10 ^ i);
                    row[9][i] = inverse(11 ^ i);
                }
                if (kind == 2) {
                    row[10][i] = row[8][i] ^ row[9][i];
                }
            }
            int[][] all = {{0, 1, 2, 6}, {3, 4, 5, 7}, {8, 9, 10}};
            groups = Arrays.copyOf(all, kind == 1 ? 2 : kind == 2 ? 3 : 0);
            written = new long[3][n];
            now = new long[3][n];
            gone = new boolean[3][n];
        }

        int product(int a, int b) {
            return a == 0 || b == 0 ? 0 : power[(exponent[a] + exponent[b]) % 255];
        }

        int inverse(int a) {
            return power[(255 - exponent[a]) % 255];
        }

        long product(int a, long shard) {
            long answer = 0;
            for (int j = 0; j < 8; j++) {
                answer |= (long) product(a, (int) (shard >>> 8 * j & 255)) << 8 * j;
            }
            return answer;
        }

        int rankOf(boolean[] taken) {
            int[][] rows = new int[n][];
            for (int i = 0; i < n; i++) {
                rows[i] = taken[i] ? row[i].clone() : new int[6];
            }
            int found = 0;
            for (int column = 0; column < 6; column++) {
                int pivot = -1;
                for (int i = found; i < n && pivot < 0; i++) {
                    pivot = rows[i][column] != 0 ? i : -1;
                }
                if (pivot < 0) {
                    continue;
                }
                int[] top = rows[pivot];
                rows[pivot] = rows[found];
                rows[found] = top;
                for (int i = 0; i < n; i++) {
                    int by = i == found ? 0 : product(rows[i][column], inverse(top[column]));
                    for (int j = 0; j < 6; j++) {
                        rows[i][j] ^= product(by, top[j]);
                    }
                }
                found++;
            }
            return found;
        }

        boolean[] present(int s) {
            boolean[] answer = new boolean[n];
            for (int i = 0; i < n; i++) {
                answer[i] = !gone[s][i];
            }
            return answer;
        }

        boolean[] local(int s, int i) {
            for (int[] group : groups) {
                boolean member = false;
                boolean whole = true;
                boolean[] plan = new boolean[n];
                for (int j : group) {
                    member |= j == i;
                    whole &= j == i || !gone[s][j];
                    plan[j] = j != i;
                }
                if (member && whole) {
                    return plan;
                }
            }
            return null;
        }

        boolean[] plan(int s, int i) {
            boolean[] plan = local(s, i);
            if (plan != null || rankOf(present(s)) < 6) {
                return plan;
            }
            plan = new boolean[n];
            int taken = 0;
            for (int j = 0; j < n && taken < 6; j++) {
                if (!gone[s][j]) {
                    plan[j] = true;
                    if (rankOf(plan) > taken) {
                        taken++;
                    } else {
                        plan[j] = false;
                    }
                }
            }
            return plan;
        }

        int place(int s, int i) {
            return (5 * s + i) % 12;
        }

        boolean read(int s, int i) {
            counted[0]++;
            if (now[s][i] != written[s][i]) {
                gone[s][i] = true;
            }
            return !gone[s][i];
        }

        boolean readFor(int s, int i, int j) {
            if (place(s, i) / 3 != place(s, j) / 3) {
                counted[2]++;
            }
            return read(s, i);
        }

        void write(int s, int i, long v) {
            counted[1]++;
            written[s][i] = v;
            now[s][i] = v;
            gone[s][i] = false;
        }

        long codeSays(int s, int i) {
            long sum = 0;
            for (int j = 0; j < 6; j++) {
                sum ^= product(row[i][j], written[s][j]);
            }
            return sum;
        }

        int follow(int s, int i) {
            int chosen = 0;
            while (true) {
                boolean[] plan = plan(s, i);
                if (plan == null) {
                    return -4;
                }
                chosen++;
                counted[3]++;
                boolean good = true;
                for (int j = 0; j < n && good; j++) {
                    good = !plan[j] || readFor(s, j, i);
                }
                if (good) {
                    return chosen;
                }
            }
        }

        boolean shard(int s, int i) {
            return s >= 0 && s <= 2 && i >= 0 && i < n;
        }

        long put(int s, int i, long v) {
            if (s < 0 || s > 2 || i < 0 || i > 5) {
                return -1;
            }
            if (gone[s][i]) {
                return -2;
            }
            if (!read(s, i)) {
                return -3;
            }
            int answer = 0;
            for (int j = 6; j < n; j++) {
                if (!gone[s][j] && row[j][i] != 0 && readFor(s, j, i)) {
                    write(s, j, now[s][j] ^ product(row[j][i], now[s][i] ^ v));
                    answer++;
                }
            }
            write(s, i, v);
            return answer;
        }

        long fetch(int s, int i) {
            if (!shard(s, i)) {
                return -1;
            }
            int answer = !gone[s][i] && read(s, i) ? 0 : follow(s, i);
            if (answer >= 0) {
                got = codeSays(s, i);
            }
            return answer;
        }

        long fail(int x) {
            if (x < 0 || x > 11) {
                return -1;
            }
            if (down[x]) {
                return -2;
            }
            down[x] = true;
            int answer = 0;
            for (int s = 0; s < 3; s++) {
                for (int i = 0; i < n; i++) {
                    if (place(s, i) == x && !gone[s][i]) {
                        gone[s][i] = true;
                        answer++;
                    }
                }
            }
            return answer;
        }

        long revive(int x) {
            if (x < 0 || x > 11 || !down[x]) {
                return 0;
            }
            down[x] = false;
            return 1;
        }

        long damage(int s, int i, int b) {
            if (!shard(s, i) || gone[s][i] || b < 0 || b > 63) {
                return 0;
            }
            now[s][i] ^= 1L << b;
            return 1;
        }

        long repair(int s, int i) {
            if (!shard(s, i)) {
                return -1;
            }
            if (!gone[s][i]) {
                return -2;
            }
            if (down[place(s, i)]) {
                return -3;
            }
            int answer = follow(s, i);
            if (answer > 0) {
                write(s, i, codeSays(s, i));
            }
            return answer;
        }

        long mend(int s) {
            if (s < 0 || s > 2) {
                return -1;
            }
            int answer = 0;
            while (true) {
                int next = -1;
                boolean nextIsLocal = false;
                for (int i = 0; i < n; i++) {
                    if (!gone[s][i] || down[place(s, i)] || plan(s, i) == null) {
                        continue;
                    }
                    boolean isLocal = local(s, i) != null;
                    if (next < 0 || isLocal && !nextIsLocal) {
                        next = i;
                        nextIsLocal = isLocal;
                    }
                }
                if (next < 0) {
                    return answer;
                }
                if (repair(s, next) > 0) {
                    answer++;
                }
            }
        }

        long scrub(int s) {
            if (s < 0 || s > 2) {
                return -1;
            }
            int answer = 0;
            for (int i = 0; i < n; i++) {
                if (!gone[s][i] && !read(s, i)) {
                    answer++;
                }
            }
            return answer;
        }

        long cost(int s, int i) {
            if (!shard(s, i)) {
                return -1;
            }
            if (!gone[s][i]) {
                return 0;
            }
            boolean[] plan = plan(s, i);
            if (plan == null) {
                return -4;
            }
            int answer = 0;
            for (boolean taken : plan) {
                answer += taken ? 1 : 0;
            }
            return answer;
        }

        long rank(int s) {
            return s < 0 || s > 2 ? -1 : rankOf(present(s));
        }

        long lost(int s) {
            if (s < 0 || s > 2) {
                return -1;
            }
            int answer = 0;
            for (int i = 0; i < n; i++) {
                answer += gone[s][i] ? 1 << i : 0;
            }
            return answer;
        }

        long content(int s, int i) {
            return shard(s, i) && !gone[s][i] ? now[s][i] : 0;
        }

        long up(int node) {
            return node >= 0 && node < 12 && !down[node] ? 1 : 0;
        }
    }

    private static int wrong = 0;
    private static int run = 0;
    private static int asked = 0;

    /** Each call of the object passes here once. */
    private static void due(String call, long got, long want) {
        asked++;
        if (got != want) {
            wrong++;
            if (wrong <= 50) {
                System.out.println("run " + run + ", call " + asked + ": " + call + " answered " + got + ", due is " + want);
            }
        }
    }

    private static int oneOf(Random random, int bound) {
        int odd = random.nextInt(60);
        if (odd == 0) {
            return -1;
        }
        if (odd == 1) {
            return bound;
        }
        if (odd == 2) {
            return random.nextInt();
        }
        return random.nextInt(bound);
    }

    private static long someContent(Random random) {
        return random.nextInt(4) == 0 ? random.nextInt(256) : random.nextLong();
    }

    // How often each kind of call comes: calm runs, runs of many failures, runs of much damage.
    private static final int[][] WEIGHTS = {
        {20, 10, 4, 4, 6, 6, 3, 2},
        {10, 10, 14, 10, 2, 8, 4, 1},
        {12, 10, 4, 6, 30, 8, 4, 1},
        {12, 12, 8, 8, 16, 10, 1, 0},
    };

    private static int pick(Random random, int[] weights) {
        int sum = 0;
        for (int weight : weights) {
            sum += weight;
        }
        int left = random.nextInt(sum);
        int kind = 0;
        while (left >= weights[kind]) {
            left -= weights[kind];
            kind++;
        }
        return kind;
    }

    private static void change(Random random, RepairGroups x, Model m) {
        int s = oneOf(random, 3);
        int i = oneOf(random, 11);
        int node = oneOf(random, 12);
        switch (pick(random, WEIGHTS[run % WEIGHTS.length])) {
            case 0: {
                int d = oneOf(random, 6);
                long v = someContent(random);
                due("put(" + s + ", " + d + ", " + v + ")", x.put(s, d, v), m.put(s, d, v));
                break;
            }
            case 1:
                due("fetch(" + s + ", " + i + ")", x.fetch(s, i), m.fetch(s, i));
                break;
            case 2:
                due("fail(" + node + ")", x.fail(node), m.fail(node));
                break;
            case 3:
                due("revive(" + node + ")", x.revive(node) ? 1 : 0, m.revive(node));
                break;
            case 4: {
                int b = oneOf(random, 64);
                due("damage(" + s + ", " + i + ", " + b + ")", x.damage(s, i, b) ? 1 : 0, m.damage(s, i, b));
                break;
            }
            case 5:
                due("repair(" + s + ", " + i + ")", x.repair(s, i), m.repair(s, i));
                break;
            case 6:
                due("mend(" + s + ")", x.mend(s), m.mend(s));
                break;
            default:
                due("scrub(" + s + ")", x.scrub(s), m.scrub(s));
                break;
        }
    }

    /** One call that changes nothing. */
    private static void ask(Random random, RepairGroups x, Model m) {
        int s = oneOf(random, 3);
        int i = oneOf(random, 11);
        int node = oneOf(random, 12);
        int which = oneOf(random, 4);
        switch (random.nextInt(9)) {
            case 0:
                due("fetched()", x.fetched(), m.got);
                break;
            case 1:
                due("size()", x.size(), m.n);
                break;
            case 2:
                due("up(" + node + ")", x.up(node) ? 1 : 0, m.up(node));
                break;
            case 3:
                due("count(" + which + ")", x.count(which), which >= 0 && which < 4 ? m.counted[which] : -1);
                break;
            case 4:
                due("lost(" + s + ")", x.lost(s), m.lost(s));
                break;
            case 5:
                due("rank(" + s + ")", x.rank(s), m.rank(s));
                break;
            case 6:
                due("content(" + s + ", " + i + ")", x.content(s, i), m.content(s, i));
                break;
            case 7:
                due("node(" + s + ", " + i + ")", x.node(s, i), m.shard(s, i) ? m.place(s, i) : -1);
                break;
            default:
                due("cost(" + s + ", " + i + ")", x.cost(s, i), m.cost(s, i));
                break;
        }
    }

    private static void lookAtAll(RepairGroups x, Model m) {
        due("fetched()", x.fetched(), m.got);
        due("size()", x.size(), m.n);
        for (int which = 0; which < 4; which++) {
            due("count(" + which + ")", x.count(which), m.counted[which]);
        }
        for (int node = -1; node <= 12; node++) {
            due("up(" + node + ")", x.up(node) ? 1 : 0, m.up(node));
        }
        for (int s = -1; s <= 3; s++) {
            due("lost(" + s + ")", x.lost(s), m.lost(s));
            due("rank(" + s + ")", x.rank(s), m.rank(s));
            for (int i = -1; i <= m.n; i++) {
                due("content(" + s + ", " + i + ")", x.content(s, i), m.content(s, i));
                due("node(" + s + ", " + i + ")", x.node(s, i), m.shard(s, i) ? m.place(s, i) : -1);
            }
        }
        for (int i = -1; i <= m.n; i++) {
            due("cost(" + run % 3 + ", " + i + ")", x.cost(run % 3, i), m.cost(run % 3, i));
        }
    }

    /** One run in four goes to the last call; the others end sooner, with a look at all there is. */
    private static void oneRun(Random random) {
        int kind = run / 4 % 3;
        RepairGroups x = new RepairGroups(kind);
        Model m = new Model(kind);
        boolean looks = run / 16 % 4 != 0;
        int calls = looks ? 1 + random.nextInt(CALLS - CALLS_OF_A_LOOK) : CALLS;
        asked = 0;
        while (asked < calls && wrong == 0) {
            if (random.nextInt(4) == 0) {
                ask(random, x, m);
            } else {
                change(random, x, m);
            }
        }
        if (looks) {
            lookAtAll(x, m);
        }
        if (asked > CALLS) {
            wrong++;
            System.out.println("run " + run + " asked " + asked + " calls, which is too many");
        }
    }

    private static void dueCounts(RepairGroups x, Model m) {
        for (int which = 0; which < 4; which++) {
            due("count(" + which + ")", x.count(which), m.counted[which]);
        }
    }

    private static void fillData(RepairGroups x, Model m, int s) {
        for (int i = 0; i < 6; i++) {
            long v = (0x9E3779B97F4A7C15L + s) * (i + 1);
            due("put(" + s + ", " + i + ", " + v + ")", x.put(s, i, v), m.put(s, i, v));
        }
    }

    private static void damageAll(RepairGroups x, Model m, int s, int set) {
        for (int i = 0; i < m.n; i++) {
            if ((set >> i & 1) != 0) {
                int b = (7 * i + set) % 64;
                due("damage(" + s + ", " + i + ", " + b + ")", x.damage(s, i, b) ? 1 : 0, m.damage(s, i, b));
            }
        }
    }

    private static void dueShards(RepairGroups x, Model m, int s) {
        due("lost(" + s + ")", x.lost(s), m.lost(s));
        due("rank(" + s + ")", x.rank(s), m.rank(s));
        for (int i = 0; i < m.n; i++) {
            due("content(" + s + ", " + i + ")", x.content(s, i), m.content(s, i));
            due("cost(" + s + ", " + i + ")", x.cost(s, i), m.cost(s, i));
        }
    }

    /** The set is lost before anything is asked of it. */
    private static void lostSet(int kind, int s, int set) {
        RepairGroups x = new RepairGroups(kind);
        Model m = new Model(kind);
        asked = 0;
        fillData(x, m, s);
        damageAll(x, m, s, set);
        due("scrub(" + s + ")", x.scrub(s), m.scrub(s));
        dueShards(x, m, s);
        for (int i = 0; i < m.n; i++) {
            due("fetch(" + s + ", " + i + ")", x.fetch(s, i), m.fetch(s, i));
            due("fetched()", x.fetched(), m.got);
        }
        dueCounts(x, m);
        due("mend(" + s + ")", x.mend(s), m.mend(s));
        dueShards(x, m, s);
        dueCounts(x, m);
    }

    /** The set is damaged, and nothing knows of it when shard i is lost and called for. */
    private static void damagedSet(int kind, int s, int set, int i) {
        RepairGroups x = new RepairGroups(kind);
        Model m = new Model(kind);
        int node = m.place(s, i);
        asked = 0;
        fillData(x, m, s);
        damageAll(x, m, s, set);
        due("fail(" + node + ")", x.fail(node), m.fail(node));
        if (set % 2 == 0) {
            due("revive(" + node + ")", x.revive(node) ? 1 : 0, m.revive(node));
            due("repair(" + s + ", " + i + ")", x.repair(s, i), m.repair(s, i));
        } else {
            due("fetch(" + s + ", " + i + ")", x.fetch(s, i), m.fetch(s, i));
            due("fetched()", x.fetched(), m.got);
        }
        due("lost(" + s + ")", x.lost(s), m.lost(s));
        dueCounts(x, m);
        due("mend(" + s + ")", x.mend(s), m.mend(s));
        dueShards(x, m, s);
        dueCounts(x, m);
    }

    private static void everySet(int kind) {
        int n = kind == 2 ? 11 : 10;
        for (int set = 0; set < 1 << n && wrong == 0; set++) {
            for (int s = 0; s < 3; s++) {
                run++;
                lostSet(kind, s, set);
            }
            for (int i = 0; i < n; i++) {
                run++;
                damagedSet(kind, (set / 2 + i) % 3, set, i);
            }
        }
    }

    public static void main(String[] args) {
        for (run = 0; run < RUNS && wrong == 0; run++) {
            oneRun(new Random(run));
        }
        for (int kind = 0; kind < 3; kind++) {
            everySet(kind);
        }
        System.out.println(wrong == 0 ? "all answers are as due" : wrong + " answers are not as due");
        if (wrong != 0) {
            System.exit(1);
        }
    }
}
