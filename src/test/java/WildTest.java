import java.lang.management.ManagementFactory;
import java.util.NoSuchElementException;
import java.util.Random;

/** Any arguments in any state: nothing is thrown but what the document names, and the room stays small. */
final class WildTest {
    private static final int[] EDGES = {Integer.MIN_VALUE, -1000, -2, -1, 0, 1, 2, 3, 4, 5, 6, 7, 9, 10, 11, 20, 21,
        39, 40, 41, 49, 50, 51, 99, 100, 999, 1000, 9999, 10000, Integer.MAX_VALUE};
    private static final String FULL = Check.FULL;

    private final Random random;
    private final Check check;

    private WildTest(long seed, Check check) {
        this.random = new Random(seed);
        this.check = check;
    }

    public static void main(String[] args) {
        Check check = new Check("WildTest");
        for (int seed = 0; seed < 300; seed++) {
            new WildTest(seed, check).run(seed % 3);
        }
        room(check);
        longRun(check);
        check.end();
    }

    private int edge() {
        return random.nextInt(4) == 0 ? random.nextInt() : EDGES[random.nextInt(EDGES.length)];
    }

    private void run(int kind) {
        LostRoads roads = kind == 0 ? new LostRoads() : Check.told(kind == 1 ? FULL : FULL.substring(0, FULL.indexOf("road")));
        for (int i = 0; i < 400; i++) {
            int which = random.nextInt(23);
            try {
                call(roads, which);
                check.due("call", 0, 0);
            } catch (NoSuchElementException e) {
                check.due("call " + which + " may not throw", which == 6 || which == 14 || which == 15, true);
            } catch (RuntimeException e) {
                check.due("call " + which + " threw " + e, 1, 0);
            }
        }
    }

    private void call(LostRoads roads, int which) {
        switch (which) {
            case 0: roads.feed(random.nextLong(), random.nextLong(), random.nextLong()); break;
            case 1: roads.stuff(edge(), edge()); break;
            case 2: roads.road(edge(), edge()); break;
            case 3: roads.surface(edge(), edge()); break;
            case 4: roads.trade(edge(), edge()); break;
            case 5: roads.way(edge(), edge()); break;
            case 6: roads.cost(edge()); break;
            case 7: roads.shock(edge(), edge()); break;
            case 8: roads.years(edge()); break;
            case 9: roads.lose(edge(), edge(), edge()); break;
            case 10: roads.layer(edge(), edge(), edge()); break;
            case 11: roads.starves(edge(), edge()); break;
            case 12: roads.purpose(edge(), edge(), edge()); break;
            case 13: roads.table(edge(), edge()); break;
            case 14: roads.newcomer(edge(), edge(), edge(), edge(), edge(), edge()); break;
            case 15: roads.swept(edge(), edge()); break;
            case 16: roads.told(edge(), edge()); break;
            case 17: roads.went(edge(), edge()); break;
            case 18: roads.wars(edge(), edge(), edge(), edge()); break;
            case 19: roads.mark(edge(), random.nextBoolean()); break;
            case 20: roads.count(edge()); break;
            case 21: if (random.nextInt(8) == 0) {
                roads.net();
            } break;
            default: roads.mark(random.nextInt(4), random.nextBoolean()); break;
        }
    }

    /** 512 dear calls: what they make must stay far below the room that all calls share. */
    private static void room(Check check) {
        com.sun.management.ThreadMXBean threads =
                (com.sun.management.ThreadMXBean) ManagementFactory.getThreadMXBean();
        long thread = Thread.currentThread().getId();
        dearCalls();
        long before = threads.getThreadAllocatedBytes(thread);
        dearCalls();
        long bytes = threads.getThreadAllocatedBytes(thread) - before;
        check.due("bytes made: " + bytes, bytes < 400000, true);
    }

    private static void dearCalls() {
        LostRoads roads = Check.told(FULL.substring(0, FULL.lastIndexOf("trade")));
        for (int i = 0; i < 60; i++) {
            roads.purpose(i % 10, i % 5, 50);
            roads.table(LostRoads.NONE, 50);
            roads.newcomer(i % 7, (i + 1) % 7, i % 5, 999, 50, i % 2);
            roads.swept(i % 10, 50);
            roads.wars(i, 20, 50, i % 2);
            roads.mark(i % 4, i % 8 > 3);
            roads.years(1);
        }
    }

    /** All 512 calls are years: numbers stay right to the end. */
    private static void longRun(Check check) {
        LostRoads roads = Check.told("stuff s hard 9 soft 9;place a;place b;road a b long 1 holes 0;"
                + "trade a b of s load 999;".repeat(6) + "shock 100;");
        roads.lose(0, 0, 99);
        for (int i = 0; i < 500; i++) {
            roads.years(50);
        }
        check.due("fell", roads.stuff(0, 2), 25000 * (999 * 6 + 99));
        check.due("surface", roads.surface(0, 0), 25000 * (999 * 6 + 99));
        check.due("hard", roads.road(0, 4), 9);
        check.due("year", roads.count(4), 25000);
    }
}
