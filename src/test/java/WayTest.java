/** Promises 8 to 10: way, cost, shock. */
final class WayTest {
    private static final String PLACES = "stuff s hard 1 soft 1;place a;place b;place c;place d;";
    private static final String TRADE = "trade a d of s load 500;";

    public static void main(String[] args) {
        Check check = new Check("WayTest");
        cheapest(check);
        fewestRoads(check);
        firstRow(check);
        worn(check);
        byLaw(check);
        others(check);
        shocks(check);
        longest(check);
        check.end();
    }

    private static void due(Check check, LostRoads roads, int cost, int... row) {
        for (int i = 0; i < row.length; i++) {
            check.due("way " + i, roads.way(0, i), row[i]);
        }
        check.due("beyond the way", roads.way(0, row.length), -1);
        check.due("cost", roads.cost(0), cost);
    }

    private static void cheapest(Check check) {
        LostRoads roads = Check.told(PLACES + "road a d long 40 holes 1;road b a long 10 holes 1;"
                + "road c b long 10 holes 1;road c d long 10 holes 1;" + TRADE);
        due(check, roads, 30, 1, 2, 3);
    }

    private static void fewestRoads(Check check) {
        LostRoads roads = Check.told(PLACES + "road a b long 10 holes 1;road b d long 20 holes 1;"
                + "road c d long 1 holes 1;road a d long 30 holes 1;" + TRADE);
        due(check, roads, 30, 3);
        roads = Check.told(PLACES + "road a b long 10 holes 1;road b c long 10 holes 1;road c d long 10 holes 1;"
                + "road b d long 20 holes 1;" + TRADE);
        due(check, roads, 30, 0, 3);
    }

    private static void firstRow(Check check) {
        LostRoads roads = Check.told(PLACES + "road b d long 5 holes 1;road a c long 5 holes 1;"
                + "road a b long 5 holes 1;road c d long 5 holes 1;" + TRADE);
        due(check, roads, 10, 1, 3);
        roads = Check.told(PLACES + "road d a long 5 holes 1;road a d long 5 holes 1;" + TRADE);
        due(check, roads, 5, 0);
        roads = Check.told(PLACES + "road a b long 5 holes 1;road b d long 5 holes 1;road b d long 5 holes 1;"
                + "road a c long 1 holes 1;road c d long 9 holes 1;" + TRADE);
        due(check, roads, 10, 0, 1);
    }

    private static void worn(Check check) {
        LostRoads roads = Check.told(PLACES + "road a d long 1 holes 960;road a d long 2 holes 960;" + TRADE
                + "shock 0;");
        due(check, roads, 1, 0);
        roads.years(1);
        due(check, roads, 2, 1);
        roads.years(1);
        check.due("stranded", roads.way(0, 0), -1);
        check.noSuch("cost of one that is stranded", () -> roads.cost(0));
    }

    private static void byLaw(Check check) {
        String text = PLACES + "road a d long 9 holes 1;road a d long 1 holes 50;way holes + ( load < 400 ) * 100;"
                + TRADE + "trade d a of s load 3;";
        LostRoads roads = Check.told(text);
        due(check, roads, 1, 0);
        check.due("the way of the lesser load", roads.way(1, 0), 0);
        check.due("its cost", roads.cost(1), 101);
    }

    private static void others(Check check) {
        LostRoads roads = Check.told(PLACES + "road a d long 9 holes 1;" + TRADE + "trade a c of s load 3;");
        check.due("way -1", roads.way(0, -1), -1);
        check.due("way 1", roads.way(0, 1), -1);
        check.due("way of no trade", roads.way(2, 0), -1);
        check.due("way of no trade", roads.way(-1, 0), -1);
        check.due("way least", roads.way(0, Integer.MIN_VALUE), -1);
        check.due("way most", roads.way(0, Integer.MAX_VALUE), -1);
        check.due("stranded", roads.way(1, 0), -1);
        check.noSuch("cost of none", () -> roads.cost(2));
        check.noSuch("cost of none", () -> roads.cost(-1));
        check.noSuch("cost of one stranded", () -> roads.cost(1));
    }

    private static void shocks(Check check) {
        LostRoads roads = Check.told("stuff s hard 1 soft 1;stuff t hard 1 soft 9;place a;place b;"
                + "road a b long 3 holes 10;road a b long 4 holes 999;shock brittle*long;trade a b of s load 9;");
        check.due("shock", roads.shock(0, 0), 24);
        check.due("shock of what is soft", roads.shock(0, 1), 0);
        check.due("shock", roads.shock(1, 0), 32);
        check.due("shock of no road", roads.shock(2, 0), -1);
        check.due("shock of no road", roads.shock(-1, 0), -1);
        check.due("shock of no stuff", roads.shock(0, 2), -1);
        check.due("shock of no stuff", roads.shock(0, -1), -1);
        LostRoads through = Check.told("stuff s hard 0 soft 1;place a;place b;road a b long 3 holes 990;"
                + "trade a b of s load 500;shock 999 < holes;");
        check.due("not yet worn through", through.shock(0, 0), 0);
        through.years(1);
        check.due("a law goes for a road that is worn through, too", through.shock(0, 0), 1);
    }

    /** Six roads over all seven places. */
    private static void longest(Check check) {
        StringBuilder text = new StringBuilder("stuff s hard 1 soft 1;");
        for (char c = 'a'; c < 'h'; c++) {
            text.append("place ").append(c).append(";");
        }
        for (char c = 'g'; c > 'a'; c--) {
            text.append("road ").append(c).append(" ").append((char) (c - 1)).append(" long 1 holes 1;");
        }
        LostRoads roads = Check.told(text + "way 9999;trade a g of s load 1;");
        due(check, roads, 59994, 5, 4, 3, 2, 1, 0);
    }
}
