/** Promises 1 and 2: a new object, feed. */
final class TapeTest {
    public static void main(String[] args) {
        Check check = new Check("TapeTest");
        newObject(check);
        signs(check);
        full(check);
        check.end();
    }

    private static void newObject(Check check) {
        LostRoads roads = new LostRoads();
        for (int what = 0; what < 8; what++) {
            check.due("count of a new object", roads.count(what), 0);
        }
        check.due("road", roads.road(0, 3), LostRoads.NONE);
        check.due("stuff", roads.stuff(0, 0), LostRoads.NONE);
        check.due("trade", roads.trade(0, 3), LostRoads.NONE);
        check.due("surface", roads.surface(0, 0), LostRoads.NONE);
        check.due("shock", roads.shock(0, 0), LostRoads.NONE);
        check.due("went", roads.went(0, 1), LostRoads.NONE);
        check.due("lose", roads.lose(0, 0, 0), false);
        check.due("told", roads.told(0, 0), false);
        check.due("wars", roads.wars(1, 1, 1, 0), LostRoads.NONE);
        check.due("table", roads.table(LostRoads.NONE, 1), LostRoads.NONE);
        check.due("years", roads.years(2), 2);
        check.due("years once more", roads.years(50), 52);
        check.noSuch("cost", () -> roads.cost(0));
        check.noSuch("swept", () -> roads.swept(0, 1));
        check.noSuch("newcomer", () -> roads.newcomer(0, 1, 0, 1, 1, 0));
    }

    private static void signs(Check check) {
        LostRoads roads = new LostRoads();
        check.due("nothing but zeros", roads.feed(0, 0, 0), 0);
        check.due("all bits", roads.feed(-1L, -1L, -1L), 0);
        check.due("9, 10, 11, 31, 32, 126, 127, 128", roads.feed(0x090A0B1F207E7F80L, 0, 0), 3);
        check.due("count", roads.count(7), 3);
        // 10, 32 are blanks, 126 is no token: the order is the highest byte first.
        check.due("net", roads.net(), 1 + 16 * 2);
        check.due("the tape is taken", roads.count(7), 0);
        roads.feed(0x706C616365206100L, 0x0000000000000020L, 0x3B00000000000000L);
        check.due("signs left out leave no gap", roads.count(7), 9);
        check.due("net", roads.net(), 0);
        check.due("the place", roads.count(1), 1);
    }

    private static void full(Check check) {
        LostRoads roads = new LostRoads();
        long blanks = 0x2020202020202020L;
        for (int i = 1; i <= 41; i++) {
            check.due("feed", roads.feed(blanks, blanks, blanks), 24 * i);
        }
        check.due("feed up to the end", roads.feed(blanks, Check.eight("place a;", 0), blanks), 1000);
        check.due("feed beyond", roads.feed(blanks, blanks, blanks), 1000);
        check.due("count", roads.count(7), 1000);
        check.due("net", roads.net(), 0);
        check.due("the last place that fitted", roads.count(1), 1);
    }
}
