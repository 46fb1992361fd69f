/** Each sentence of the document that tells a bound of a question (promises 14 to 22). */
final class BoundsAskTest {
    private static final int[] NO_YEARS = {Integer.MIN_VALUE, -1, 0, 51, Integer.MAX_VALUE};
    /** Ten holes more each year; nothing falls by itself. */
    private static final String TEN = "stuff s hard 0 soft 9;stuff t hard 1 soft 3;place a;place b;"
            + "trade a b of s load 100;shock 0;";

    private final Check check = new Check("BoundsAskTest");

    public static void main(String[] args) {
        BoundsAskTest test = new BoundsAskTest();
        test.yearsAsked();
        test.starvesNow();
        test.starvesFirst();
        test.purposeFewest();
        test.purposeMost();
        test.purposeOnTop();
        test.purposeBehindAny();
        test.tableThousandEach();
        test.tableBest();
        test.newcomerThousandEach();
        test.newcomerFewer();
        test.newcomerComes();
        test.newcomerIsATrade();
        test.sweptAll();
        test.sweptThousandEach();
        test.allElseAsItIs();
        test.wentSets();
        test.wentNone();
        test.toldBounds();
        test.marks();
        test.marksHoldAll();
        test.check.end();
    }

    private void yearsAsked() {
        check.sentence("YEARS 1 to 50");
        LostRoads roads = Check.told(TEN + "road a b long 1 holes 0;");
        for (int years : NO_YEARS) {
            check.due("years " + years, roads.years(years), -1);
            check.due("starves " + years, roads.starves(0, years), -1);
            check.due("purpose " + years, roads.purpose(0, 0, years), -1);
            check.due("table " + years, roads.table(0, years), -1);
            check.due("best " + years, roads.table(-1, years), -1);
            check.noSuch("newcomer " + years, () -> roads.newcomer(0, 1, 0, 1, years, 0));
            check.noSuch("swept " + years, () -> roads.swept(0, years));
            check.due("wars " + years, roads.wars(0, 1, years, 0), -1);
        }
        check.due("no year passed", roads.count(4), 0);
        for (int years : new int[] {1, 50}) {
            check.due("starves " + years, roads.starves(0, years), -1);
            check.due("purpose " + years, roads.purpose(0, 0, years), 0);
            check.due("table " + years, roads.table(0, years), years * 10);
            check.due("best " + years, roads.table(-1, years), 0);
            check.due("newcomer " + years, roads.newcomer(0, 1, 0, 10, years, 0), years);
            check.due("newcomer " + years, roads.newcomer(0, 1, 0, 10, years, 1), years * 10);
            check.due("swept " + years, roads.swept(0, years), 0);
            check.due("wars come in " + years, roads.wars(0, 1, years, 1) >= 100, true);
        }
        check.due("no year passed", roads.count(4), 0);
        check.due("years 1", roads.years(1), 1);
        check.due("years 50", roads.years(50), 51);
        check.due("next year", roads.count(4), 51);
    }

    private void starvesNow() {
        check.sentence("STARVES: behind how many YEARS (0: now) a road is WORN THROUGH for the first time");
        LostRoads roads = Check.told(TEN + "road a b long 1 holes 999;");
        check.due("999 holes now", roads.starves(0, 1), 1);
        roads.years(1);
        check.due("1009 holes now", roads.starves(0, 1), 0);
        check.due("1009 holes now", roads.starves(0, 50), 0);
        check.due("others", roads.starves(0, 0), -1);
        check.due("others", roads.starves(0, 51), -1);
    }

    private void starvesFirst() {
        check.sentence("STARVES; NONE: others, not within these");
        LostRoads roads = Check.told(TEN + "road a b long 1 holes 500;");
        check.due("1000 behind 50", roads.starves(0, 50), 50);
        check.due("not within 49", roads.starves(0, 49), -1);
        roads = Check.told(TEN + "road a b long 1 holes 499;");
        check.due("999 behind 50", roads.starves(0, 50), -1);
        roads.years(1);
        check.due("1009 behind 50 from now on", roads.starves(0, 50), 50);
        // Worn through behind one year, mended on purpose behind the next: the first time counts.
        roads = Check.told("stuff s hard 9 soft 0;place a;place b;road a b long 1 holes 990;trade a b of s load 200;"
                + "shock 0;mend (hard=9)*9;");
        roads.lose(0, 0, 2);
        check.due("the first time", roads.starves(0, 50), 1);
        roads.years(2);
        check.due("mended again", roads.road(0, 6), 0);
    }

    private void purposeFewest() {
        check.sentence("PURPOSE: the fewest parts (0 to 99) of a STUFF to be lost on a road each YEAR");
        LostRoads roads = Check.told(TEN + "road a b long 1 holes 989;");
        check.due("0: it holds as it is", roads.purpose(0, 1, 1), 0);
        check.due("5 a year for 2", roads.purpose(0, 1, 2), 5);
        check.due("10 a year for 50", roads.purpose(0, 1, 50), 10);
        // Any number may be the one: of a law that wants just so many.
        for (int just : new int[] {1, 2, 49, 50, 98, 99}) {
            LostRoads odd = Check.told(TEN + "road a b long 1 holes 995;mend (lost=" + just + ")*99;");
            check.due("just " + just, odd.purpose(0, 1, 50), just);
            check.due("of the other stuff, too", odd.purpose(0, 0, 50), just);
        }
        LostRoads two = Check.told(TEN + "road a b long 1 holes 995;mend (lost=30 or lost=60)*99;");
        check.due("the fewest", two.purpose(0, 0, 1), 30);
    }

    private void purposeMost() {
        check.sentence("PURPOSE; NONE: others, 99 do not");
        String text = "stuff s hard 1 soft 0;place a;place b;road a b long 1 holes 999;shock 0;";
        check.due("99 holes a year", Check.told(text + "trade a b of s load 999;").purpose(0, 0, 50), 99);
        check.due("100 holes a year", Check.told(text + "trade a b of s load 990;trade a b of s load 10;")
                .purpose(0, 0, 50), -1);
        check.due("100 holes a year, once", Check.told(text + "trade a b of s load 990;trade a b of s load 10;")
                .purpose(0, 0, 1), -1);
        check.due("just 100", Check.told(text + "trade a b of s load 10;mend lost=100;").purpose(0, 0, 1), -1);
    }

    private void purposeOnTop() {
        check.sentence("on top of what is");
        LostRoads roads = Check.told(TEN + "road a b long 1 holes 999;");
        check.due("none yet", roads.purpose(0, 1, 50), 10);
        roads.lose(0, 1, 4);
        check.due("4 are", roads.purpose(0, 1, 50), 6);
        roads.lose(0, 1, 10);
        check.due("10 are", roads.purpose(0, 1, 50), 0);
        LostRoads odd = Check.told(TEN + "road a b long 1 holes 995;mend (lost=198)*99;");
        odd.lose(0, 1, 99);
        check.due("99 on top of 99", odd.purpose(0, 1, 50), 99);
        odd.lose(0, 1, 98);
        check.due("no more than 99 on top", odd.purpose(0, 1, 50), -1);
    }

    private void purposeBehindAny() {
        check.sentence("so that it is not WORN THROUGH behind any of so many");
        LostRoads roads = Check.told(TEN + "road a b long 1 holes 995;");
        roads.years(1);
        check.due("worn through now", roads.road(0, 3), 1005);
        check.due("6 bring it below behind one", roads.purpose(0, 1, 1), 6);
        check.due("and 10 keep it there", roads.purpose(0, 1, 50), 10);
        // Behind the second year it holds whatever is lost; behind the first it does not.
        LostRoads late = Check.told("stuff s hard 0 soft 0;stuff t hard 9 soft 0;place a;place b;"
                + "road a b long 1 holes 995;trade a b of s load 100;shock 0;mend (hard=9)*90+(lost=7)*9;");
        late.lose(0, 1, 1);
        check.due("worn through in between", late.purpose(0, 1, 2), 6);
    }

    private void tableThousandEach() {
        check.sentence("TABLE: HOLES of all roads together (1,000 at most each) behind so many");
        LostRoads roads = Check.told("stuff s hard 0 soft 0;place a;place b;place c;road a b long 1 holes 901;"
                + "road b c long 1 holes 999;road a c long 99 holes 7;trade a b of s load 990;trade b c of s load 500;"
                + "shock 0;");
        check.due("1000 and 1000 and 7", roads.table(0, 1), 2007);
        LostRoads just = Check.told("stuff s hard 0 soft 0;place a;place b;road a b long 1 holes 901;"
                + "trade a b of s load 989;shock 0;");
        check.due("999", just.table(0, 1), 999);
        check.due("1000", just.table(0, 2), 1000);
        check.due("no road", Check.told("stuff s hard 0 soft 0;").table(0, 1), 0);
        LostRoads all = Check.told("stuff s hard 0 soft 0;place a;place b;" + "road a b long 1 holes 999;".repeat(10)
                + "trade a b of s load 999;shock 0;");
        check.due("all ten", all.table(0, 50), 10000);
    }

    private void tableBest() {
        check.sentence("the best STUFF by that (of equal ones the first)");
        String land = "place a;place b;road a b long 1 holes 500;shock 10;";
        LostRoads roads = Check.told("stuff o hard 1 soft 0;stuff p hard 3 soft 0;stuff q hard 2 soft 0;"
                + "stuff r hard 3 soft 0;stuff s hard 0 soft 0;" + land + "trade a b of s load 100;");
        int[] want = {500, 480, 490, 480, 510};
        for (int stuff = 0; stuff < 5; stuff++) {
            check.due("table of " + stuff, roads.table(stuff, 1), want[stuff]);
        }
        check.due("the best", roads.table(-1, 1), 1);
        check.due("the last", Check.told("stuff o hard 1 soft 0;stuff p hard 3 soft 0;stuff q hard 2 soft 0;"
                + "stuff r hard 3 soft 0;stuff s hard 4 soft 0;" + land + "trade a b of o load 100;").table(-1, 1), 4);
        check.due("all equal", Check.told("stuff o hard 1 soft 0;stuff p hard 3 soft 0;" + land).table(-1, 50), 0);
        check.sentence("TABLE of a STUFF (NONE: which is best); NONE: others, no STUFF");
        check.due("a sixth", roads.table(5, 1), -1);
        check.due("-2", roads.table(-2, 1), -1);
        check.due("no stuff", Check.told(land).table(-1, 1), -1);
        check.due("no stuff", Check.told(land).table(0, 1), -1);
        check.due("no net", new LostRoads().table(-1, 1), -1);
    }

    private void newcomerThousandEach() {
        check.sentence("NEWCOMER: how many HOLES more all roads have so, likewise");
        LostRoads roads = Check.told(TEN + "road a b long 1 holes 950;road a b long 99 holes 3;");
        check.due("990 by 960", roads.newcomer(0, 1, 0, 300, 1, 0), 30);
        check.due("999 by 960", roads.newcomer(1, 0, 0, 399, 1, 0), 39);
        check.due("1000 by 960", roads.newcomer(1, 0, 0, 400, 1, 0), 40);
        check.due("1059 by 960", roads.newcomer(1, 0, 0, 999, 1, 0), 40);
        // The old trade and the new one take the other road then.
        check.due("and the other one", roads.newcomer(1, 0, 0, 999, 2, 0), 1000 + 3 + 109 - 970 - 3);
    }

    private void newcomerFewer() {
        check.sentence("(below 0: fewer)");
        LostRoads roads = Check.told("stuff s hard 9 soft 9;place a;place b;road a b long 1 holes 500;shock 10;");
        check.due("99 fall of 999: 891 less, 0 at least", roads.newcomer(0, 1, 0, 999, 1, 0), -500);
        check.due("1 falls of 10", roads.newcomer(0, 1, 0, 10, 1, 0), 1 - 9);
        check.due("0 fall of 1", roads.newcomer(0, 1, 0, 1, 1, 0), 0);
    }

    private void newcomerComes() {
        check.sentence("what COMES through of it in all");
        LostRoads roads = Check.told(TEN + "road a b long 1 holes 980;");
        roads.years(1);
        check.due("one year", roads.newcomer(0, 1, 0, 7, 1, 1), 7);
        check.due("stranded behind the first", roads.newcomer(0, 1, 0, 7, 50, 1), 7);
        check.due("999", roads.newcomer(0, 1, 0, 999, 1, 1), 999);
        LostRoads all = Check.told("stuff s hard 0 soft 0;place a;place b;road a b long 1 holes 0;shock 100;");
        check.due("all fall", all.newcomer(0, 1, 0, 999, 50, 1), 0);
        LostRoads apart = Check.told("stuff s hard 0 soft 0;place a;place b;");
        check.due("stranded", apart.newcomer(0, 1, 0, 999, 50, 1), 0);
        check.due("no holes", apart.newcomer(0, 1, 0, 999, 50, 0), 0);
        LostRoads five = Check.told("stuff s hard 0 soft 0;place a;place b;road a b long 1 holes 0;"
                + "trade b a of s load 3;".repeat(5) + "shock 0;");
        check.due("behind the others", five.newcomer(0, 1, 0, 100, 2, 1), 200);
    }

    private void newcomerIsATrade() {
        check.sentence("NoSuchElementException: others (load 1 to 999, 6 trades are there)");
        LostRoads roads = Check.told(TEN + "road a b long 1 holes 0;");
        for (int load : new int[] {Integer.MIN_VALUE, -1, 0, 1000, Integer.MAX_VALUE}) {
            check.noSuch("load " + load, () -> roads.newcomer(0, 1, 0, load, 1, 0));
            check.noSuch("load " + load, () -> roads.newcomer(0, 1, 0, load, 1, 1));
        }
        check.due("load 1", roads.newcomer(0, 1, 0, 1, 1, 1), 1);
        check.due("load 999", roads.newcomer(0, 1, 0, 999, 1, 1), 999);
        check.noSuch("from a place to itself", () -> roads.newcomer(0, 0, 0, 1, 1, 0));
        check.noSuch("from a place to itself", () -> roads.newcomer(1, 1, 0, 1, 1, 1));
        String five = TEN + "road a b long 1 holes 0;" + "trade b a of s load 1;".repeat(4);
        check.due("a sixth", Check.told(five).newcomer(0, 1, 0, 1, 1, 1), 1);
        LostRoads six = Check.told(five + "trade b a of s load 1;");
        check.noSuch("a seventh", () -> six.newcomer(0, 1, 0, 1, 1, 0));
        check.noSuch("a seventh", () -> six.newcomer(0, 1, 0, 1, 1, 1));
    }

    private void sweptAll() {
        check.sentence("SWEPT: all that falls on one road is taken away ahead of its mending");
        LostRoads roads = Check.told("stuff s hard 1 soft 9;stuff t hard 2 soft 9;place a;place b;place c;"
                + "road a b long 1 holes 100;road b c long 1 holes 100;trade a c of s load 100;trade c a of t load 100;"
                + "shock 10;");
        // 10 of s and 9 of t mend the first road by 28, 9 of s and 10 of t the second by 29.
        check.due("the first road", roads.swept(0, 1), 28);
        check.due("the second road", roads.swept(1, 1), 29);
        roads.lose(0, 0, 5);
        check.due("what is lost on purpose falls, too", roads.swept(0, 1), 33);
        check.due("of one road alone", roads.swept(1, 1), 29);
        check.sentence("how many HOLES more all roads have");
        LostRoads both = Check.told("stuff s hard 9 soft 9;place a;place b;place c;road a c long 5 holes 0;"
                + "road a b long 3 holes 0;road b c long 3 holes 0;trade a c of s load 100;shock 1;mend 0;"
                + "way long+hard;");
        // Unswept the first road has a surface, and two roads are cheaper from the second year on.
        check.due("10 a year fewer from the second one on", both.swept(0, 3), 30 - (10 + 10 + 9 + 10));
    }

    private void sweptThousandEach() {
        check.sentence("how many HOLES more all roads have (1,000 at most each)");
        LostRoads roads = Check.told("stuff s hard 9 soft 9;place a;place b;road a b long 1 holes 950;"
                + "trade a b of s load 999;shock 10;");
        // 950 + 99 = 1049, mended by 99 * 9.
        check.due("1000 less 158", roads.swept(0, 1), 1000 - 158);
        LostRoads worn = Check.told(TEN + "road a b long 1 holes 999;");
        worn.years(1);
        check.due("both 1000", worn.swept(0, 50), 0);
        worn.lose(0, 1, 10);
        check.due("1000 less 999", worn.swept(0, 1), 1);
    }

    private void allElseAsItIs() {
        check.sentence("Asked from now on, all else as it is (and as ahead then)");
        LostRoads roads = Check.told(Check.FULL.substring(0, Check.FULL.lastIndexOf("trade"))
                + "way long*load-holes;shock brittle+holes;mend strong+1;");
        roads.lose(3, 2, 5);
        roads.years(2);
        String before = Check.picture(roads);
        roads.starves(9, 50);
        roads.purpose(9, 4, 50);
        roads.table(4, 50);
        roads.table(-1, 50);
        roads.newcomer(6, 0, 4, 999, 50, 0);
        roads.newcomer(6, 0, 4, 999, 50, 1);
        roads.swept(9, 50);
        roads.wars(9999, 20, 50, 0);
        roads.wars(9999, 20, 50, 1);
        check.due("all is as ahead", Check.picture(roads), before);
        check.due("layers, too", roads.layer(2, 0, 0), -1);
        roads.years(1);
        check.due("what is lost on purpose is as it was", roads.layer(2, 3, 2) >= 5, true);
    }

    private void wentSets() {
        check.sentence("WENT: sets of trades (bits): the least; how many; one in all");
        StringBuilder text = new StringBuilder("stuff s hard 0 soft 0;place a;place b;road a b long 1 holes 10;"
                + "road a b long 1 holes 0;road a b long 1 holes 100;");
        for (int i = 0; i < 6; i++) {
            text.append("trade a b of s load ").append(10 << i).append(";");
        }
        LostRoads roads = Check.told(text.toString());
        for (int set : new int[] {0, 1, 2, 31, 32, 33, 62, 63}) {
            roads.told(0, set);
            for (int what = 0; what < 3; what++) {
                check.due("went " + set, roads.went(0, what), what == 1 ? 1 : set);
            }
            roads.told(0, set * 10);
            check.due("all of it falls", roads.went(2, 0), set);
        }
        roads.told(0, 0);
        check.due("where nothing falls: the empty set", roads.went(1, 0), 0);
        check.due("all 64 sets", roads.went(1, 1), 64);
        check.due("none in all", roads.went(1, 2), 0);
        roads.told(0, 64);
        check.due("more than all", roads.went(0, 1), -1);
        LostRoads alike = Check.told("stuff s hard 0 soft 0;place a;place b;road a b long 1 holes 10;"
                + "trade a b of s load 100;".repeat(6));
        alike.told(0, 30);
        check.due("the least of three", alike.went(0, 0), 7);
        check.due("3 of 6", alike.went(0, 1), 20);
        check.due("none in all", alike.went(0, 2), 0);
        alike.told(0, 60);
        check.due("all", alike.went(0, 2), 63);
        LostRoads none = Check.told("stuff s hard 0 soft 0;place a;place b;road a b long 1 holes 10;");
        check.due("no trade: the empty set", none.went(0, 0), 0);
        check.due("one set", none.went(0, 1), 1);
        check.due("none in all", none.went(0, 2), 0);
        LostRoads bare = Check.told("place a;place b;road a b long 1 holes 10;");
        check.due("no stuff: the empty set", bare.went(0, 1), 1);
    }

    private void wentNone() {
        check.sentence("what 0: the least set, 1: how many, 2: those in all sets, as bits; NONE: others, none");
        LostRoads roads = Check.told("stuff s hard 0 soft 0;stuff t hard 0 soft 0;place a;place b;"
                + "road a b long 1 holes 10;trade a b of s load 100;");
        roads.told(0, 10);
        check.due("just so", roads.went(0, 0), 1);
        for (int parts : new int[] {1, 9, 11, 9999}) {
            roads.told(0, parts);
            for (int what = 0; what < 3; what++) {
                check.due("told " + parts + ", what " + what, roads.went(0, what), -1);
            }
        }
        roads.told(0, 10);
        roads.told(1, 1);
        check.due("of a stuff that none carries", roads.went(0, 0), -1);
    }

    private void toldBounds() {
        check.sentence("so many parts (0 to 9999) are of a STUFF (all others as told; 0 at first)");
        LostRoads roads = Check.told("stuff s hard 0 soft 0;stuff t hard 0 soft 0;place a;place b;"
                + "road a b long 1 holes 10;trade a b of s load 100;trade a b of t load 200;");
        check.due("0 at first", roads.went(0, 0), 0);
        check.due("told", roads.told(0, 10), true);
        check.due("of the other 0", roads.went(0, 0), 1);
        check.due("told", roads.told(1, 20), true);
        check.due("of the other as told", roads.went(0, 0), 3);
        for (int parts : new int[] {Integer.MIN_VALUE, -1, 10000, Integer.MAX_VALUE}) {
            check.due("told " + parts, roads.told(1, parts), false);
            check.due("as told ahead", roads.went(0, 0), 3);
        }
        check.due("told 0", roads.told(1, 0), true);
        check.due("the first alone", roads.went(0, 0), 1);
        check.due("told 9999", roads.told(1, 9999), true);
        check.due("none", roads.went(0, 0), -1);
    }

    private void marks() {
        check.sentence("MARKS 0 to 3 hold all but the TAPE; false: none such, nothing is on it (back)");
        LostRoads roads = Check.told(TEN + "road a b long 1 holes 0;");
        for (int mark : new int[] {Integer.MIN_VALUE, -1, 4, Integer.MAX_VALUE}) {
            check.due("mark " + mark, roads.mark(mark, false), false);
            check.due("mark " + mark, roads.mark(mark, true), false);
        }
        for (int mark = 0; mark < 4; mark++) {
            check.due("nothing is on " + mark, roads.mark(mark, true), false);
            check.due("laid " + mark, roads.mark(mark, false), true);
            roads.years(1);
        }
        Check.feed(roads, "place");
        for (int mark = 3; mark >= 0; mark--) {
            check.due("back to " + mark, roads.mark(mark, true), true);
            check.due("its year", roads.count(4), mark);
            check.due("its holes", roads.road(0, 3), mark * 10);
            check.due("the tape stays", roads.count(7), 5);
        }
        check.due("back once more", roads.mark(3, true), true);
        check.due("its year", roads.count(4), 3);
        LostRoads kept = Check.told("stuff s hard 0 soft 0;place a;place b;road a b long 1 holes 500;");
        kept.mark(0, false);
        kept.lose(0, 0, 4);
        kept.years(40);
        kept.mark(2, false);
        kept.mark(0, true);
        kept.lose(0, 0, 9);
        kept.years(40);
        check.due("other layers from the first mark on", kept.layer(39, 0, 0), 9);
        kept.mark(2, true);
        check.due("the first layer", kept.layer(0, 0, 0), 4);
        check.due("the last layer that is kept", kept.layer(39, 0, 0), 4);
        check.due("not kept", kept.layer(40, 0, 0), -1);
    }

    /** Every road, stuff and trade of a net that has as many as may be. */
    private void marksHoldAll() {
        check.sentence("MARKS 0 to 3 hold all but the TAPE");
        LostRoads roads = Check.told(Check.FULL);
        for (int road = 0; road < 10; road++) {
            roads.lose(road, 4 - road % 5, 10 + road);
        }
        roads.years(3);
        String before = Check.picture(roads);
        roads.told(4, 1);
        roads.mark(3, false);
        roads.told(4, 0);
        for (int road = 0; road < 10; road++) {
            roads.lose(road, 4 - road % 5, 0);
            roads.lose(road, road % 5, 3);
        }
        roads.years(50);
        check.due("all has changed", Check.picture(roads).equals(before), false);
        check.due("back", roads.mark(3, true), true);
        check.due("all is as it was", Check.picture(roads), before);
        check.due("what is told", roads.went(0, 0), -1);
        int[] surfaces = new int[10];
        for (int road = 0; road < 10; road++) {
            surfaces[road] = roads.surface(road, 4 - road % 5);
        }
        roads.years(1);
        for (int road = 0; road < 10; road++) {
            int stuff = 4 - road % 5;
            check.due("what is lost on purpose", roads.layer(3, road, stuff) >= 10 + road, true);
            check.due("it lay there", roads.layer(3, road, stuff), roads.surface(road, stuff) - surfaces[road]);
        }
    }
}
