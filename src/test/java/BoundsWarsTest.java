import java.math.BigInteger;

/** Each sentence of the document that tells a bound of WARS and of a DRAW (promise 21). */
final class BoundsWarsTest {
    private static final int[] SEEDS = {0, 1, 2, 3, 17, 4999, 5000, 9998, 9999};

    private final Check check = new Check("BoundsWarsTest");

    public static void main(String[] args) {
        BoundsWarsTest test = new BoundsWarsTest();
        test.seeds();
        test.runs();
        test.years();
        test.others();
        test.drawOfHoles();
        test.drawOfRoad();
        test.goesOnOverYears();
        test.goesOnOverRuns();
        test.fromNowOn();
        test.holdAtLast();
        test.aheadOfTheYear();
        test.comesThrough();
        test.check.end();
    }

    /** The draws of the document, by other means than the program's. */
    private static final class Draws {
        private BigInteger g;

        Draws(int seed) {
            g = BigInteger.valueOf(seed);
        }

        int below(int m) {
            g = g.multiply(BigInteger.valueOf(1103515245)).add(BigInteger.valueOf(12345))
                    .mod(BigInteger.valueOf(2147483648L));
            return g.divide(BigInteger.valueOf(65536)).mod(BigInteger.valueOf(m)).intValueExact();
        }
    }

    private static String road(int holes) {
        return "road a b long 1 holes " + holes + ";";
    }

    private static LostRoads land(String roads) {
        return Check.told("stuff s hard 0 soft 0;place a;place b;" + roads);
    }

    private void seeds() {
        check.sentence("WARS by a SEED (0 to 9999)");
        LostRoads roads = land(road(0));
        for (int seed : new int[] {Integer.MIN_VALUE, -1, 10000, Integer.MAX_VALUE}) {
            check.due("seed " + seed, roads.wars(seed, 1, 1, 0), -1);
            check.due("seed " + seed, roads.wars(seed, 1, 1, 1), -1);
        }
        check.due("seed 0", roads.wars(0, 1, 1, 0), 1);
        check.due("seed 9999", roads.wars(9999, 1, 1, 0), 1);
    }

    private void runs() {
        check.sentence("runs (1 to 20)");
        LostRoads roads = land(road(0));
        for (int runs : new int[] {Integer.MIN_VALUE, -1, 0, 21, Integer.MAX_VALUE}) {
            check.due("runs " + runs, roads.wars(1, runs, 1, 0), -1);
            check.due("runs " + runs, roads.wars(1, runs, 1, 1), -1);
        }
        check.due("runs 1", roads.wars(1, 1, 1, 0), 1);
        check.due("runs 20", roads.wars(1, 20, 1, 0), 20);
    }

    private void years() {
        check.sentence("of so many YEARS (1 to 50)");
        LostRoads roads = land(road(0) + "trade a b of s load 10;shock 0;mend 0;");
        for (int years : new int[] {Integer.MIN_VALUE, -1, 0, 51, Integer.MAX_VALUE}) {
            check.due("years " + years, roads.wars(1, 1, years, 0), -1);
            check.due("years " + years, roads.wars(1, 1, years, 1), -1);
        }
        check.due("years 1", roads.wars(1, 1, 1, 0), 1);
        check.due("worn through behind 50", roads.wars(1, 1, 50, 0), 0);
    }

    private void others() {
        check.sentence("what 0: runs in which all hold, 1: what COMES through; NONE: others, no road");
        LostRoads roads = land(road(0));
        for (int what : new int[] {Integer.MIN_VALUE, -1, 2, Integer.MAX_VALUE}) {
            check.due("what " + what, roads.wars(1, 1, 1, what), -1);
        }
        check.due("no trade", roads.wars(1, 20, 50, 1), 0);
        check.due("no road", land("").wars(1, 1, 1, 0), -1);
        check.due("no road", land("trade a b of s load 1;").wars(1, 1, 1, 1), -1);
        check.due("no net", new LostRoads().wars(1, 1, 1, 0), -1);
    }

    private void drawOfHoles() {
        check.sentence("one that has a DRAW below 500 HOLES more");
        int most = 0;
        for (int seed = 0; seed < 10000; seed += 37) {
            Draws draws = new Draws(seed);
            draws.below(1);
            int more = draws.below(500);
            most = Math.max(most, more);
            check.due("just holds by " + seed, land(road(999 - more)).wars(seed, 1, 1, 0), 1);
            if (more > 0) {
                check.due("just does not by " + seed, land(road(1000 - more)).wars(seed, 1, 1, 0), 0);
            }
        }
        check.due("draws up to 499 are among them", most >= 495, true);
        LostRoads half = land(road(500));
        for (int seed : SEEDS) {
            check.due("500 and at most 499 hold", half.wars(seed, 20, 1, 0), 20);
        }
    }

    private void drawOfRoad() {
        check.sentence("ahead of each YEAR a DRAW below the roads tells one");
        for (int many = 1; many <= 10; many++) {
            for (int seed : SEEDS) {
                Draws draws = new Draws(seed + many);
                int drawn = draws.below(many);
                int more = draws.below(500);
                StringBuilder holds = new StringBuilder();
                StringBuilder not = new StringBuilder();
                for (int i = 0; i < many; i++) {
                    holds.append(road(i == drawn ? 999 - more : 999));
                    not.append(road(i == drawn ? Math.min(999, 1000 - more) : 0));
                }
                int want = seed + many > 9999 ? -1 : 1;
                check.due(many + " roads by " + (seed + many), land(holds.toString()).wars(seed + many, 1, 1, 0), want);
                check.due(many + " roads by " + (seed + many), land(not.toString()).wars(seed + many, 1, 1, 0),
                        more > 0 ? Math.min(want, 0) : want);
            }
        }
    }

    private void goesOnOverYears() {
        check.sentence("ahead of each YEAR a DRAW");
        for (int seed : SEEDS) {
            Draws draws = new Draws(seed);
            int more = 0;
            int years = 0;
            draws.below(1);
            int next = draws.below(500);
            while (more + next < 1000) {
                more += next;
                years++;
                draws.below(1);
                next = draws.below(500);
            }
            check.due("holds behind " + years, land(road(999 - more)).wars(seed, 1, years, 0), 1);
            check.due("does not behind " + years, land(road(1000 - more)).wars(seed, 1, years, 0), 0);
            check.due("does not behind one more", land(road(0)).wars(seed, 1, years + 1, 0), 0);
        }
    }

    private void goesOnOverRuns() {
        check.sentence("each from now on (g goes on)");
        for (int seed : SEEDS) {
            for (int runs : new int[] {1, 2, 3, 19, 20}) {
                Draws draws = new Draws(seed);
                int hold = 0;
                for (int run = 0; run < runs; run++) {
                    draws.below(1);
                    hold += 700 + draws.below(500) < 1000 ? 1 : 0;
                }
                check.due(runs + " runs by " + seed, land(road(700)).wars(seed, runs, 1, 0), hold);
            }
        }
        LostRoads roads = land(road(700));
        int first = roads.wars(17, 20, 1, 0);
        check.due("g is the seed at first in each call", roads.wars(17, 20, 1, 0), first);
    }

    private void fromNowOn() {
        check.sentence("runs, each from now on");
        LostRoads roads = land(road(450) + "trade a b of s load 100;shock 0;");
        roads.years(4);
        check.due("490, 10 and at most 499 hold in all runs", roads.wars(3, 20, 1, 0), 20);
        check.due("all come through", roads.wars(3, 20, 1, 1), 2000);
        check.due("nothing has changed", roads.road(0, 3), 490);
        check.due("the year", roads.count(4), 4);
        check.due("a surface of one run is not that of the next", Check.told("stuff s hard 9 soft 0;place a;place b;"
                + "road a b long 1 holes 0;trade a b of s load 100;shock 10+hard*10;mend 0;").wars(1, 20, 1, 1), 1800);
    }

    private void holdAtLast() {
        check.sentence("in how many runs all roads hold at last");
        // Worn through ahead of the year and mended within it: it holds at last.
        LostRoads mended = Check.told("stuff s hard 9 soft 0;place a;place b;road a b long 1 holes 999;mend 99;");
        mended.lose(0, 0, 99);
        check.due("all", mended.wars(7, 20, 1, 0), 20);
        // One of two roads does not hold: the run does not count.
        LostRoads two = Check.told("stuff s hard 0 soft 0;place a;place b;place c;road a b long 1 holes 999;"
                + "road b c long 1 holes 0;trade a b of s load 10;shock 0;");
        check.due("none", two.wars(7, 20, 1, 0), 0);
        LostRoads worn = Check.told("stuff s hard 0 soft 0;place a;place b;road a b long 1 holes 999;"
                + "trade a b of s load 999;shock 0;");
        worn.years(1);
        check.due("worn through now", worn.wars(7, 20, 50, 0), 0);
        check.due("stranded", worn.wars(7, 20, 50, 1), 0);
    }

    private void aheadOfTheYear() {
        check.sentence("ahead of each YEAR");
        // Worn through ahead of the year: the trade is stranded in it.
        for (int seed : SEEDS) {
            Draws draws = new Draws(seed);
            draws.below(1);
            int more = draws.below(500);
            LostRoads roads = land(road(Math.min(999, 1000 - more)) + "trade a b of s load 9;shock 0;");
            check.due("stranded by " + seed, roads.wars(seed, 1, 1, 1), more > 0 ? 0 : 9);
            LostRoads holding = land(road(999 - more) + "trade a b of s load 9;shock 0;");
            check.due("comes by " + seed, holding.wars(seed, 1, 1, 1), 9);
            // The shock of the year sees the holes that the war made.
            LostRoads seen = land(road(0) + "trade a b of s load 100;");
            check.due("shock by " + seed, seen.wars(seed, 1, 1, 1), 100 - Math.min(100, more));
        }
    }

    private void comesThrough() {
        check.sentence("what COMES through, all together");
        LostRoads roads = Check.told("stuff s hard 0 soft 0;stuff t hard 0 soft 0;place a;place b;place c;"
                + "road a b long 1 holes 0;trade a b of s load 100;trade b a of t load 30;trade a c of s load 999;"
                + "trade a b of s load 1;shock 10;");
        check.due("90 + 27 + 1 in each run", roads.wars(0, 20, 1, 1), 20 * 118);
        check.due("one run", roads.wars(0, 1, 1, 1), 118);
        check.due("two years", roads.wars(0, 1, 2, 1), 236);
        LostRoads most = Check.told("stuff s hard 9 soft 0;place a;place b;road a b long 1 holes 0;"
                + "trade a b of s load 999;".repeat(6) + "shock 0;mend 99;");
        most.lose(0, 0, 99);
        check.due("as much as there can be", most.wars(0, 20, 50, 1), 20 * 50 * 6 * 999);
    }
}
