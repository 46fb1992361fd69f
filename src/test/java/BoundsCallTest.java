/**
 * Each promise's "others": every argument too small and too large, on a new object, on a small net and on one that
 * has as many of each thing as may be; and that a refused call changes nothing (promises 1, 4 to 23).
 */
final class BoundsCallTest {
    private static final String SMALL = "stuff s hard 1 soft 2;stuff t hard 3 soft 4;place a;place b;place c;"
            + "road a b long 5 holes 6;road b c long 7 holes 8;road a c long 50 holes 9;trade a c of s load 10;"
            + "trade c a of t load 11;";

    private final Check check = new Check("BoundsCallTest");
    private final String net;
    private final int stuffs;
    private final int places;
    private final int roads;
    private final int trades;

    private BoundsCallTest(String net, int stuffs, int places, int roads, int trades) {
        this.net = net;
        this.stuffs = stuffs;
        this.places = places;
        this.roads = roads;
        this.trades = trades;
    }

    public static void main(String[] args) {
        new BoundsCallTest("", 0, 0, 0, 0).run();
        new BoundsCallTest(SMALL, 2, 3, 3, 2).run();
        new BoundsCallTest(Check.FULL, 5, 7, 10, 6).run();
    }

    private void run() {
        counts();
        stuff();
        road();
        surface();
        trade();
        way();
        cost();
        shock();
        lose();
        layer();
        starves();
        purpose();
        table();
        newcomer();
        swept();
        told();
        went();
        mark();
        refusedChangesNothing();
        check.end();
    }

    private LostRoads land() {
        return net.isEmpty() ? new LostRoads() : Check.told(net);
    }

    /** Numbers that are none of so many things. */
    private static int[] none(int many) {
        return new int[] {Integer.MIN_VALUE, -2, -1, many, many + 1, Integer.MAX_VALUE};
    }

    private void counts() {
        check.sentence("What 0: STUFFS, 1: PLACES, 2: roads, 3: trades, 4: the next YEAR .. NONE for another what");
        LostRoads x = land();
        check.due("stuffs", x.count(0), stuffs);
        check.due("places", x.count(1), places);
        check.due("roads", x.count(2), roads);
        check.due("trades", x.count(3), trades);
        check.due("year", x.count(4), 0);
        check.due("worn through", x.count(5), 0);
        check.due("signs", x.count(7), 0);
        int holes = 0;
        for (int road = 0; road < roads; road++) {
            holes += x.road(road, 3);
        }
        check.due("holes", x.count(6), holes);
        for (int what : none(8)) {
            check.due("count " + what, x.count(what), -1);
        }
    }

    private void stuff() {
        check.sentence("Of a STUFF, what 0: hard, 1: soft, 2: parts of it that fell in all; NONE: others");
        LostRoads x = land();
        for (int stuff : none(stuffs)) {
            for (int what = 0; what < 3; what++) {
                check.due("stuff " + stuff + " " + what, x.stuff(stuff, what), -1);
            }
        }
        for (int what : none(3)) {
            check.due("stuff what " + what, x.stuff(0, what), -1);
            check.due("last stuff what " + what, x.stuff(stuffs - 1, what), -1);
        }
        for (int what = 0; what < 3 && stuffs > 0; what++) {
            check.due("the first is one", x.stuff(0, what) >= 0, true);
            check.due("the last is one", x.stuff(stuffs - 1, what) >= 0, true);
        }
    }

    private void road() {
        check.sentence("Of a road, what 0, 1: its PLACES .. 6: 1 if it is WORN THROUGH; NONE: others");
        LostRoads x = land();
        for (int road : none(roads)) {
            for (int what = 0; what < 7; what++) {
                check.due("road " + road + " " + what, x.road(road, what), -1);
            }
        }
        for (int what : none(7)) {
            check.due("road what " + what, x.road(0, what), -1);
            check.due("last road what " + what, x.road(roads - 1, what), -1);
        }
        for (int what = 0; what < 7 && roads > 0; what++) {
            check.due("the first is one", x.road(0, what) >= 0, true);
            check.due("the last is one", x.road(roads - 1, what) >= 0, true);
        }
    }

    private void surface() {
        check.sentence("Parts of a STUFF in the SURFACE of a road; NONE: others");
        LostRoads x = land();
        for (int road : none(roads)) {
            check.due("surface of road " + road, x.surface(road, 0), -1);
            for (int stuff : none(stuffs)) {
                check.due("surface of " + road + " " + stuff, x.surface(road, stuff), -1);
            }
        }
        for (int stuff : none(stuffs)) {
            check.due("surface of stuff " + stuff, x.surface(0, stuff), -1);
            check.due("surface of stuff " + stuff, x.surface(roads - 1, stuff), -1);
        }
        if (roads > 0) {
            check.due("of the first", x.surface(0, 0), 0);
            check.due("of the last", x.surface(roads - 1, stuffs - 1), 0);
        }
    }

    private void trade() {
        check.sentence("Of a trade, what 0, 1: its PLACES .. 5: in all; NONE: others");
        LostRoads x = land();
        x.years(1);
        for (int trade : none(trades)) {
            for (int what = 0; what < 6; what++) {
                check.due("trade " + trade + " " + what, x.trade(trade, what), -1);
            }
        }
        for (int what : none(6)) {
            check.due("trade what " + what, x.trade(0, what), -1);
            check.due("last trade what " + what, x.trade(trades - 1, what), -1);
        }
        for (int what = 0; what < 6 && trades > 0; what++) {
            check.due("the first is one", x.trade(0, what) >= 0, true);
            check.due("the last is one", x.trade(trades - 1, what) >= 0, true);
        }
    }

    private void way() {
        check.sentence("The i-th road of the WAY that a trade would take now; NONE: others, beyond, STRANDED");
        LostRoads x = land();
        for (int trade : none(trades)) {
            check.due("way of " + trade, x.way(trade, 0), -1);
        }
        for (int i : none(10)) {
            check.due("way " + i, x.way(0, i), -1);
            check.due("way " + i, x.way(trades - 1, i), -1);
        }
        for (int trade = 0; trade < trades; trade++) {
            int many = 0;
            while (many < 8 && x.way(trade, many) >= 0) {
                many++;
            }
            check.due("a way of one road at least", many >= 1 && many <= 6, true);
            for (int i = many; i < 12; i++) {
                check.due("beyond", x.way(trade, i), -1);
            }
        }
    }

    private void cost() {
        check.sentence("What it costs. NoSuchElementException: others, STRANDED");
        LostRoads x = land();
        for (int trade : none(trades)) {
            check.noSuch("cost of " + trade, () -> x.cost(trade));
        }
        for (int trade = 0; trade < trades; trade++) {
            check.due("cost", x.cost(trade) >= 1, true);
        }
    }

    private void shock() {
        check.sentence("How many of a hundred parts of a STUFF fall on a road now; NONE: others");
        LostRoads x = land();
        for (int road : none(roads)) {
            check.due("shock of road " + road, x.shock(road, 0), -1);
            for (int stuff : none(stuffs)) {
                check.due("shock of " + road + " " + stuff, x.shock(road, stuff), -1);
            }
        }
        for (int stuff : none(stuffs)) {
            check.due("shock of stuff " + stuff, x.shock(0, stuff), -1);
            check.due("shock of stuff " + stuff, x.shock(roads - 1, stuff), -1);
        }
        if (roads > 0) {
            check.due("of the first", x.shock(0, 0) >= 0, true);
            check.due("of the last", x.shock(roads - 1, stuffs - 1) >= 0, true);
        }
    }

    private void lose() {
        check.sentence("So many parts (0 to 99) of a STUFF are to be lost on a road each YEAR: true; false: others");
        LostRoads x = land();
        for (int road : none(roads)) {
            check.due("lose on road " + road, x.lose(road, 0, 1), false);
            check.due("lose none on road " + road, x.lose(road, 0, 0), false);
        }
        for (int stuff : none(stuffs)) {
            check.due("lose stuff " + stuff, x.lose(0, stuff, 1), false);
            check.due("lose none of stuff " + stuff, x.lose(roads - 1, stuff, 0), false);
        }
        for (int parts : none(100)) {
            check.due("lose parts " + parts, x.lose(0, 0, parts), false);
            check.due("lose parts " + parts, x.lose(roads - 1, stuffs - 1, parts), false);
        }
        x.years(1);
        for (int stuff = 0; stuff < stuffs; stuff++) {
            check.due("nothing was lost on purpose", x.stuff(stuff, 2), fellWithout(stuff));
        }
        for (int parts : new int[] {0, 1, 98, 99}) {
            check.due("lose " + parts, x.lose(0, 0, parts), roads > 0);
            check.due("lose " + parts, x.lose(roads - 1, stuffs - 1, parts), roads > 0);
        }
    }

    private int fellWithout(int stuff) {
        LostRoads x = land();
        x.years(1);
        return x.stuff(stuff, 2);
    }

    private void layer() {
        check.sentence("Parts of a STUFF in the LAYER of a YEAR on a road; NONE: others, not kept, not yet");
        LostRoads x = land();
        x.years(50);
        for (int year : none(40)) {
            check.due("layer of " + year, x.layer(year, 0, 0), -1);
            check.due("layer of " + year, x.layer(year, roads - 1, stuffs - 1), -1);
        }
        for (int road : none(roads)) {
            check.due("layer of road " + road, x.layer(0, road, 0), -1);
            check.due("layer of road " + road, x.layer(39, road, 0), -1);
        }
        for (int stuff : none(stuffs)) {
            check.due("layer of stuff " + stuff, x.layer(0, 0, stuff), -1);
            check.due("layer of stuff " + stuff, x.layer(39, roads - 1, stuff), -1);
        }
        if (roads > 0) {
            check.due("of the first", x.layer(0, 0, 0) >= 0, true);
            check.due("of the last", x.layer(39, roads - 1, stuffs - 1) >= 0, true);
        }
    }

    private void starves() {
        check.sentence("STARVES; NONE: others, not within these");
        LostRoads x = land();
        for (int road : none(roads)) {
            check.due("starves of " + road, x.starves(road, 1), -1);
            check.due("starves of " + road, x.starves(road, 50), -1);
        }
    }

    private void purpose() {
        check.sentence("PURPOSE; NONE: others, 99 do not");
        LostRoads x = land();
        for (int road : none(roads)) {
            check.due("purpose of road " + road, x.purpose(road, 0, 1), -1);
        }
        for (int stuff : none(stuffs)) {
            check.due("purpose of stuff " + stuff, x.purpose(0, stuff, 1), -1);
            check.due("purpose of stuff " + stuff, x.purpose(roads - 1, stuff, 1), -1);
        }
        if (roads > 0) {
            check.due("of the first", x.purpose(0, 0, 1), 0);
            check.due("of the last", x.purpose(roads - 1, stuffs - 1, 1), 0);
        }
    }

    private void table() {
        check.sentence("TABLE of a STUFF (NONE: which is best); NONE: others, no STUFF");
        LostRoads x = land();
        for (int stuff : none(stuffs)) {
            if (stuff != -1 || stuffs == 0) {
                check.due("table of " + stuff, x.table(stuff, 1), -1);
                check.due("table of " + stuff, x.table(stuff, 50), -1);
            }
        }
        if (stuffs > 0) {
            check.due("of the first", x.table(0, 1) >= 0, true);
            check.due("of the last", x.table(stuffs - 1, 1) >= 0, true);
            check.due("the best", x.table(-1, 1) >= 0 && x.table(-1, 1) < stuffs, true);
        }
    }

    private void newcomer() {
        check.sentence("NoSuchElementException: others (load 1 to 999, 6 trades are there)");
        LostRoads x = land();
        for (int place : none(places)) {
            check.noSuch("from " + place, () -> x.newcomer(place, 0, 0, 1, 1, 0));
            check.noSuch("from " + place, () -> x.newcomer(place, places - 1, 0, 1, 1, 0));
            check.noSuch("to " + place, () -> x.newcomer(0, place, 0, 1, 1, 0));
            check.noSuch("to " + place, () -> x.newcomer(places - 1, place, 0, 1, 1, 1));
            check.noSuch("from and to " + place, () -> x.newcomer(place, place, 0, 1, 1, 1));
        }
        for (int stuff : none(stuffs)) {
            check.noSuch("stuff " + stuff, () -> x.newcomer(0, 1, stuff, 1, 1, 0));
        }
        for (int what : none(2)) {
            check.noSuch("what " + what, () -> x.newcomer(0, 1, 0, 1, 1, what));
        }
        if (trades == 0 || trades == 6) {
            check.noSuch("no net, or 6 trades", () -> x.newcomer(0, 1, 0, 1, 1, 0));
        } else {
            check.due("of the last", x.newcomer(places - 1, 0, stuffs - 1, 1, 1, 1), 1);
        }
    }

    private void swept() {
        check.sentence("SWEPT. NoSuchElementException: others");
        LostRoads x = land();
        for (int road : none(roads)) {
            check.noSuch("swept " + road, () -> x.swept(road, 1));
            check.noSuch("swept " + road, () -> x.swept(road, 50));
        }
        if (roads > 0) {
            check.due("the last", x.swept(roads - 1, 1) >= 0, true);
        }
    }

    private void told() {
        check.sentence("so many parts (0 to 9999) are of a STUFF: true; false: others");
        LostRoads x = land();
        for (int stuff : none(stuffs)) {
            check.due("told of " + stuff, x.told(stuff, 0), false);
            check.due("told of " + stuff, x.told(stuff, 9999), false);
        }
        for (int parts : none(10000)) {
            check.due("told " + parts, x.told(0, parts), false);
        }
        check.due("told", x.told(0, 9999), stuffs > 0);
        check.due("told", x.told(stuffs - 1, 0), stuffs > 0);
    }

    private void went() {
        check.sentence("WENT over a road; NONE: others, none");
        LostRoads x = land();
        for (int road : none(roads)) {
            for (int what = 0; what < 3; what++) {
                check.due("went over " + road, x.went(road, what), -1);
            }
        }
        for (int what : none(3)) {
            check.due("went what " + what, x.went(0, what), -1);
            check.due("went what " + what, x.went(roads - 1, what), -1);
        }
        if (roads > 0) {
            check.due("the empty set", x.went(roads - 1, 0), 0);
        }
    }

    private void mark() {
        check.sentence("A MARK is laid (back: gone back to): true; false: none such, nothing is on it (back)");
        LostRoads x = land();
        for (int mark : none(4)) {
            check.due("mark " + mark, x.mark(mark, false), false);
            check.due("mark " + mark, x.mark(mark, true), false);
        }
        for (int mark = 0; mark < 4; mark++) {
            check.due("back to " + mark, x.mark(mark, true), false);
        }
        for (int mark = 3; mark >= 0; mark--) {
            check.due("laid " + mark, x.mark(mark, false), true);
            check.due("back to " + mark, x.mark(mark, true), true);
            check.due("the one below is not laid", x.mark(mark - 1, true), false);
        }
    }

    private void refusedChangesNothing() {
        check.sentence("a refused call changes nothing");
        LostRoads x = land();
        x.years(1);
        Check.feed(x, "place");
        String before = Check.picture(x);
        x.feed(0x0001020304050607L, 0x7F80FF1F00000000L, 0);
        x.years(0);
        x.years(51);
        x.lose(roads, 0, 5);
        x.lose(0, stuffs, 5);
        x.lose(0, 0, 100);
        x.told(stuffs, 1);
        x.told(0, 10000);
        x.mark(4, false);
        x.mark(0, true);
        x.wars(10000, 20, 50, 0);
        x.table(stuffs, 50);
        x.starves(roads, 50);
        x.purpose(roads, 0, 50);
        check.noSuch("cost", () -> x.cost(trades));
        check.noSuch("swept", () -> x.swept(roads, 50));
        check.noSuch("newcomer", () -> x.newcomer(0, places, 0, 999, 50, 1));
        check.due("all is as it was", Check.picture(x), before);
        if (stuffs > 0 && roads > 0) {
            int fell = x.stuff(0, 2);
            LostRoads twin = land();
            twin.years(2);
            x.years(1);
            check.due("no part more falls", x.stuff(0, 2) - fell, twin.stuff(0, 2) - fell);
        }
    }
}
