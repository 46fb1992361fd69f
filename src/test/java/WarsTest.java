/** Promise 21: wars. */
final class WarsTest {
    public static void main(String[] args) {
        Check check = new Check("WarsTest");
        bounds(check);
        oneRoad(check);
        manyTrades(check);
        twoRoads(check);
        check.end();
    }

    private static void bounds(Check check) {
        LostRoads roads = Check.told("place a;place b;road a b long 1 holes 0;");
        check.due("seed 0", roads.wars(0, 1, 1, 0), 1);
        check.due("seed 9999", roads.wars(9999, 20, 1, 0), 20);
        check.due("seed -1", roads.wars(-1, 1, 1, 0), -1);
        check.due("seed 10000", roads.wars(10000, 1, 1, 0), -1);
        check.due("runs 0", roads.wars(0, 0, 1, 0), -1);
        check.due("runs 21", roads.wars(0, 21, 1, 0), -1);
        check.due("years 0", roads.wars(0, 1, 0, 0), -1);
        check.due("years 51", roads.wars(0, 1, 51, 0), -1);
        check.due("what 2", roads.wars(0, 1, 1, 2), -1);
        check.due("what -1", roads.wars(0, 1, 1, -1), -1);
        check.due("no trade", roads.wars(0, 1, 50, 1), 0);
        check.due("no road", Check.told("place a;place b;").wars(0, 1, 1, 0), -1);
    }

    /** The draws of the document, by other means than the program's. */
    private static final class Draws {
        private java.math.BigInteger g;

        Draws(int seed) {
            g = java.math.BigInteger.valueOf(seed);
        }

        int below(int m) {
            g = g.multiply(java.math.BigInteger.valueOf(1103515245)).add(java.math.BigInteger.valueOf(12345))
                    .mod(java.math.BigInteger.ONE.shiftLeft(31));
            return g.shiftRight(16).mod(java.math.BigInteger.valueOf(m)).intValueExact();
        }
    }

    private static void oneRoad(Check check) {
        // No mending: holes only grow, by 10 for each year in which the trade comes through.
        LostRoads roads = Check.told("stuff s hard 0 soft 0;place a;place b;road a b long 1 holes 300;"
                + "trade a b of s load 100;shock 0;");
        for (int seed = 0; seed < 9999; seed += 777) {
            Draws draws = new Draws(seed);
            int hold = 0;
            int comes = 0;
            for (int run = 0; run < 20; run++) {
                int holes = 300;
                for (int year = 0; year < 3; year++) {
                    draws.below(1);
                    holes += draws.below(500);
                    comes += holes < 1000 ? 100 : 0;
                    holes += holes < 1000 ? 10 : 0;
                }
                hold += holes < 1000 ? 1 : 0;
            }
            check.due("hold by " + seed, roads.wars(seed, 20, 3, 0), hold);
            check.due("comes by " + seed, roads.wars(seed, 20, 3, 1), comes);
        }
        check.due("nothing has changed", roads.road(0, 3), 300);
    }

    /** A trade that is stranded, and two that come through for certain. */
    private static void manyTrades(Check check) {
        LostRoads roads = Check.told("stuff s hard 0 soft 0;place a;place b;place c;road a b long 1 holes 0;"
                + "trade a b of s load 100;trade a c of s load 30;trade b a of s load 7;shock 50;");
        check.due("50 + 4 in each of 20 runs", roads.wars(3, 20, 1, 1), 20 * 54);
        check.due("all hold", roads.wars(3, 20, 1, 0), 20);
    }

    private static void twoRoads(Check check) {
        // What is worn through may hold again at last: 99 parts a year mend each road wholly.
        LostRoads roads = Check.told("stuff s hard 9 soft 0;place a;place b;road a b long 1 holes 999;"
                + "road a b long 1 holes 999;trade a b of s load 90;shock 0;mend 99;");
        roads.lose(0, 0, 99);
        roads.lose(1, 0, 99);
        check.due("all hold at last", roads.wars(5, 20, 2, 0), 20);
        Draws draws = new Draws(5);
        int comes = 0;
        for (int run = 0; run < 20; run++) {
            int[] holes = {999, 999};
            for (int year = 0; year < 2; year++) {
                int road = draws.below(2);
                holes[road] += draws.below(500);
                comes += holes[0] < 1000 || holes[1] < 1000 ? 90 : 0;
                holes[0] = 0;
                holes[1] = 0;
            }
        }
        check.due("what comes", roads.wars(5, 20, 2, 1), comes);
    }
}
