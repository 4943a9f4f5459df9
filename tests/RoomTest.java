import java.lang.management.ManagementFactory;
import java.util.Random;

/** No call throws for any arguments in any state, and a run of calls makes next to nothing. */
public final class RoomTest {
    private static final int[] EDGES = {Integer.MIN_VALUE, Integer.MIN_VALUE + 1, -1000000001, -1000, -999, -100, -99,
        -10, -9, -8, -4, -3, -2, -1, 0, 1, 2, 3, 4, 5, 6, 7, 8, 9, 10, 11, 12, 13, 39, 40, 41, 99, 100, 101, 999, 1000,
        1000000001, Integer.MAX_VALUE - 1, Integer.MAX_VALUE};
    private static final String SIGNS = "abcdefgh  ..++--((()))0123456789";
    private static long sum = 0;

    public static void main(String[] args) {
        int wrong = 0;
        for (int seed = 0; seed < 400; seed++) {
            Random random = new Random(seed);
            GroupsByRelations x = new GroupsByRelations();
            for (int call = 0; call < 3000; call++) {
                try {
                    sum += anyCall(x, random, seed % 4);
                } catch (RuntimeException | StackOverflowError e) {
                    wrong++;
                    System.out.println("seed " + seed + ", call " + call + " threw " + e);
                }
            }
        }
        wrong += roomOfRun();
        System.out.println(wrong == 0 ? "nothing was thrown, and the room is enough" : wrong + " faults (" + sum + ")");
        if (wrong > 0) {
            System.exit(1);
        }
    }

    /** 512 calls, and the objects that they are on made as often, in bytes: the room is some 7 million numbers. */
    private static int roomOfRun() {
        com.sun.management.ThreadMXBean bean = (com.sun.management.ThreadMXBean) ManagementFactory.getThreadMXBean();
        long id = Thread.currentThread().getId();
        GroupsByRelations x = new GroupsByRelations();
        Random random = new Random(99);
        for (int i = 0; i < 5000; i++) {
            sum += anyCall(x, random, 3);
        }
        long before = bean.getThreadAllocatedBytes(id);
        for (int i = 0; i < 512; i++) {
            sum += anyCall(x, random, 3);
        }
        long calls = bean.getThreadAllocatedBytes(id) - before;
        before = bean.getThreadAllocatedBytes(id);
        GroupsByRelations y = new GroupsByRelations();
        sum += y.many(0);
        long made = bean.getThreadAllocatedBytes(id) - before;
        System.out.println("bytes: 512 calls " + calls + ", an object " + made);
        int wrong = 0;
        if (calls > 64000) {
            wrong++;
            System.out.println("calls make too much");
        }
        if (made > 120000) {
            wrong++;
            System.out.println("an object is too great");
        }
        return wrong;
    }

    /** style 0: edges alone; else mostly numbers that make sense. */
    private static int any(Random random, int style, int low, int high) {
        if (style == 0 || random.nextInt(10 * style) == 0) {
            return EDGES[random.nextInt(EDGES.length)];
        }
        return low + random.nextInt(high - low + 1);
    }

    private static long anyCall(GroupsByRelations x, Random r, int s) {
        int f = any(r, s, 0, 7);
        int g = any(r, s, 0, 5);
        int h = any(r, s, 0, 5);
        int k = any(r, s, 0, 2);
        int q = any(r, s, 0, 3);
        int a = any(r, s, -9, 9);
        int b = any(r, s, -9, 9);
        int c = any(r, s, -9, 9);
        switch (r.nextInt(38)) {
            case 0: return r.nextInt(4) == 0 ? x.group(g, q) : 0;
            case 1: return r.nextInt(2) == 0 ? x.relation(g, a, b, c) : 0;
            case 2: return x.groupIs(g, q);
            case 3: return x.ring(g, k);
            case 4: return x.step(g, k);
            case 5: return x.normal(g, a, b, c, k);
            case 6: return x.order(g, a, b, c);
            case 7: return x.same(g, h);
            case 8: return x.ofTwo(f, g, h, k);
            case 9: return x.span(g, q, k, any(r, s, 0, 9));
            case 10: return x.map(f, g, h);
            case 11: return x.entry(f, k, any(r, s, 0, 2), a);
            case 12: return x.at(f, k, any(r, s, 0, 2));
            case 13: return x.mapIs(f, any(r, s, 0, 4));
            case 14: return x.image(f, a, b, c, k);
            case 15: return x.part(f, q, k);
            case 16: return x.whence(f, a, b, c, k);
            case 17: return x.exact(f, any(r, s, 0, 7));
            case 18: case 19: return feed(x, r, s);
            case 20: return x.text(f);
            case 21: return x.diagram(q, k);
            case 22: return x.connected(q, k, a, b, c, any(r, s, 0, 2));
            case 23: return x.move(q, k);
            case 24: return x.stop(q);
            case 25: return x.run(g, a, b, c, q);
            case 26: return r.nextInt(3) == 0 ? x.undo() : 0;
            case 27: return x.sheet(q, any(r, s, -1, 2), any(r, s, 0, 40));
            case 28: return x.put(q, any(r, s, 0, 12), r.nextInt(3) == 0 ? r.nextLong() : a);
            case 29: return x.item(q, k, any(r, s, 0, 12));
            case 30: return x.lay(q, g, a, b, c);
            case 31: return x.hold(q, any(r, s, -1, 3));
            case 32: return x.add(q, any(r, s, 0, 3));
            case 33: return x.rest(q);
            case 34: return x.lies(q, any(r, s, 0, 3));
            case 35: return x.taken(q, any(r, s, 0, 12));
            case 36: return x.many(any(r, s, 0, 6));
            default: return r.nextInt(10) == 0 ? x.again() : x.keep();
        }
    }

    private static long feed(GroupsByRelations x, Random r, int s) {
        long eight = 0;
        for (int i = 0; i < 8; i++) {
            int sign = r.nextInt(40) == 0 ? r.nextInt(256) : SIGNS.charAt(r.nextInt(SIGNS.length()));
            eight |= (long) sign << (8 * i);
        }
        return x.feed(eight, any(r, s, 1, 8));
    }
}
