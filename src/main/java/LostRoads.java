import java.util.Arrays;
import java.util.NoSuchElementException;

/**
 * Roads that are mended only with what was lost on them: a net of stuffs, places, roads and trades
 * is told on a tape, and its years are reckoned exactly. README.md says how to use it.
 */
public final class LostRoads {
    public static final int NONE = -1;

    private static final int STUFFS = 5;
    private static final int PLACES = 7;
    private static final int ROADS = 10;
    private static final int TRADES = 6;
    private static final int MARKS = 4;

    private static final int WORN_THROUGH = 1000;
    private static final int MOST_HOLES = 999999;
    private static final int MOST_YEARS = 50;
    private static final int KEPT_LAYERS = 40;
    private static final int MOST_LOST = 99;
    private static final int MOST_LOAD = 999;
    private static final int MOST_TOLD = 9999;
    private static final int MOST_SEED = 9999;
    private static final int MOST_RUNS = 20;
    private static final int WAR_HOLES = 500;

    private static final int WAY = 0;
    private static final int SHOCK = 1;
    private static final int MEND = 2;
    private static final int LAWS = 3;

    // The steps of a law, in the order in which a stack takes them: facts, operators, numbers.
    private static final int FACT_LONG = 0;
    private static final int FACT_HOLES = 1;
    private static final int FACT_HARD = 2;
    private static final int FACT_SOFT = 3;
    private static final int FACT_LOAD = 4;
    private static final int FACT_BRITTLE = 5;
    private static final int FACT_LOST = 6;
    private static final int FACT_STRONG = 7;
    private static final int FACTS = 8;
    private static final int DO_NOT = 8;
    private static final int DO_AND = 9;
    private static final int DO_OR = 10;
    private static final int DO_LESS = 11;
    private static final int DO_SAME = 12;
    private static final int DO_PLUS = 13;
    private static final int DO_MINUS = 14;
    private static final int DO_TIMES = 15;
    private static final int NUMBERS = 16;

    private final Tape tape = new Tape();
    private final Tokens tokens = new Tokens();
    private final Net draft = new Net();
    private final Reader reader = new Reader(tokens, draft);
    private final Net land = new Net();
    private final State now = new State(KEPT_LAYERS);
    private final State trial = new State(0);
    private final Trades trialTrades = new Trades();
    private final State[] marks = new State[MARKS];
    private final boolean[] laid = new boolean[MARKS];
    private final Survey survey = new Survey(land);
    private final WayFinder finder = new WayFinder(land, survey);
    private final Year oneYear = new Year(land, survey, finder);
    private long draw;

    public LostRoads() {
    }

    public int feed(long a, long b, long c) {
        tape.append(a);
        tape.append(b);
        tape.append(c);
        return tape.length;
    }

    public int net() {
        tokens.cut(tape);
        tape.length = 0;
        int fault = reader.read();
        if (fault != 0) {
            return fault;
        }
        land.take(draft);
        now.begin(land);
        for (int i = 0; i < MARKS; i++) {
            laid[i] = false;
        }
        return 0;
    }

    public int stuff(int stuff, int what) {
        if (!isStuff(stuff)) {
            return NONE;
        }
        switch (what) {
            case 0: return land.hard[stuff];
            case 1: return land.soft[stuff];
            case 2: return now.fell[stuff];
            default: return NONE;
        }
    }

    public int road(int road, int what) {
        if (!isRoad(road)) {
            return NONE;
        }
        switch (what) {
            case 0: return land.roadFrom[road];
            case 1: return land.roadTo[road];
            case 2: return land.roadLong[road];
            case 3: return now.holes[road];
            case 4: return now.mean(road, land.hard);
            case 5: return now.mean(road, land.soft);
            case 6: return now.isWorn(road) ? 1 : 0;
            default: return NONE;
        }
    }

    public int surface(int road, int stuff) {
        return isRoad(road) && isStuff(stuff) ? now.surface[cell(road, stuff)] : NONE;
    }

    public int trade(int trade, int what) {
        if (!isTrade(trade)) {
            return NONE;
        }
        switch (what) {
            case 0: return land.trades.from[trade];
            case 1: return land.trades.to[trade];
            case 2: return land.trades.stuff[trade];
            case 3: return land.trades.load[trade];
            case 4: return now.cameLast[trade];
            case 5: return now.cameAll[trade];
            default: return NONE;
        }
    }

    public int way(int trade, int i) {
        if (!isTrade(trade) || !findWayNow(trade) || i < 0 || i >= finder.many) {
            return NONE;
        }
        return finder.row[i];
    }

    public int cost(int trade) throws NoSuchElementException {
        if (!isTrade(trade)) {
            throw new NoSuchElementException("no such trade");
        }
        if (!findWayNow(trade)) {
            throw new NoSuchElementException("the trade is stranded");
        }
        return finder.price;
    }

    public int shock(int road, int stuff) {
        if (!isRoad(road) || !isStuff(stuff)) {
            return NONE;
        }
        survey.look(now);
        return survey.shockOf(road, stuff);
    }

    public int years(int many) {
        if (!isYears(many)) {
            return NONE;
        }
        for (int i = 0; i < many; i++) {
            oneYear.pass(now, land.trades, NONE);
        }
        return now.year;
    }

    public boolean lose(int road, int stuff, int parts) {
        if (!isRoad(road) || !isStuff(stuff) || parts < 0 || parts > MOST_LOST) {
            return false;
        }
        now.onPurpose[cell(road, stuff)] = parts;
        return true;
    }

    public int layer(int year, int road, int stuff) {
        if (!isRoad(road) || !isStuff(stuff) || !now.keeps(year) || year >= now.year) {
            return NONE;
        }
        return now.layers[State.layerCell(year, road, stuff)];
    }

    public int starves(int road, int years) {
        if (!isRoad(road) || !isYears(years)) {
            return NONE;
        }
        if (now.isWorn(road)) {
            return 0;
        }
        beginTrial();
        return wornBehind(road, years);
    }

    public int purpose(int road, int stuff, int years) {
        if (!isRoad(road) || !isStuff(stuff) || !isYears(years)) {
            return NONE;
        }
        // More parts may mend less (a law may be so), so no number can be leapt over.
        for (int parts = 0; parts <= MOST_LOST; parts++) {
            beginTrial();
            trial.onPurpose[cell(road, stuff)] += parts;
            if (wornBehind(road, years) == NONE) {
                return parts;
            }
        }
        return NONE;
    }

    public int table(int stuff, int years) {
        if (!isYears(years) || stuff < NONE || stuff >= land.stuffs) {
            return NONE;
        }
        if (stuff != NONE) {
            return holesIfAllCarry(stuff, years);
        }
        int best = NONE;
        int fewest = 0;
        for (int one = 0; one < land.stuffs; one++) {
            int holes = holesIfAllCarry(one, years);
            if (best == NONE || holes < fewest) {
                best = one;
                fewest = holes;
            }
        }
        return best;
    }

    public int newcomer(int from, int to, int stuff, int load, int years, int what) throws NoSuchElementException {
        boolean isTradeMore = isPlace(from) && isPlace(to) && from != to && isStuff(stuff)
                && load >= 1 && load <= MOST_LOAD && land.trades.many < TRADES;
        if (!isTradeMore || !isYears(years) || what < 0 || what > 1) {
            throw new NoSuchElementException("no such newcomer");
        }
        int holes = what == 0 ? holesAsTold(years) : 0;
        beginTrial();
        trialTrades.add(from, to, stuff, load);
        passTrial(years, NONE);
        return what == 0 ? holesTogether(trial) - holes : trial.cameAll[land.trades.many];
    }

    public int swept(int road, int years) throws NoSuchElementException {
        if (!isRoad(road) || !isYears(years)) {
            throw new NoSuchElementException("no such road, or no such years");
        }
        int holes = holesAsTold(years);
        beginTrial();
        passTrial(years, road);
        return holesTogether(trial) - holes;
    }

    public boolean told(int stuff, int parts) {
        if (!isStuff(stuff) || parts < 0 || parts > MOST_TOLD) {
            return false;
        }
        now.toldLayer[stuff] = parts;
        return true;
    }

    public int went(int road, int what) {
        if (!isRoad(road) || what < 0 || what > 2) {
            return NONE;
        }
        survey.look(now);
        int least = NONE;
        int many = 0;
        int inAll = (1 << land.trades.many) - 1;
        for (int set = 0; set < 1 << land.trades.many; set++) {
            if (leavesToldLayer(road, set)) {
                least = many == 0 ? set : least;
                many++;
                inAll &= set;
            }
        }
        if (many == 0) {
            return NONE;
        }
        return what == 0 ? least : what == 1 ? many : inAll;
    }

    public int wars(int seed, int runs, int years, int what) {
        boolean isWar = seed >= 0 && seed <= MOST_SEED && runs >= 1 && runs <= MOST_RUNS && isYears(years);
        if (!isWar || what < 0 || what > 1 || land.roads == 0) {
            return NONE;
        }
        draw = seed;
        int holding = 0;
        int came = 0;
        for (int run = 0; run < runs; run++) {
            beginTrial();
            came += cameInWar(years);
            holding += wornRoads(trial) == 0 ? 1 : 0;
        }
        return what == 0 ? holding : came;
    }

    public boolean mark(int mark, boolean back) {
        if (mark < 0 || mark >= MARKS || back && !laid[mark]) {
            return false;
        }
        // Laid at need: most objects never lay all four, and each one holds its own layers.
        if (marks[mark] == null) {
            marks[mark] = new State(KEPT_LAYERS);
        }
        if (back) {
            now.takeAll(marks[mark]);
        } else {
            marks[mark].takeAll(now);
            laid[mark] = true;
        }
        return true;
    }

    public int count(int what) {
        switch (what) {
            case 0: return land.stuffs;
            case 1: return land.places;
            case 2: return land.roads;
            case 3: return land.trades.many;
            case 4: return now.year;
            case 5: return wornRoads(now);
            case 6: return holesTogether(now);
            case 7: return tape.length;
            default: return NONE;
        }
    }

    private boolean isStuff(int stuff) {
        return stuff >= 0 && stuff < land.stuffs;
    }

    private boolean isPlace(int place) {
        return place >= 0 && place < land.places;
    }

    private boolean isRoad(int road) {
        return road >= 0 && road < land.roads;
    }

    private boolean isTrade(int trade) {
        return trade >= 0 && trade < land.trades.many;
    }

    private static boolean isYears(int years) {
        return years >= 1 && years <= MOST_YEARS;
    }

    private static int cell(int road, int stuff) {
        return road * STUFFS + stuff;
    }

    private static int within(int least, int value, int most) {
        return value < least ? least : value > most ? most : value;
    }

    private boolean findWayNow(int trade) {
        survey.look(now);
        finder.setPrices(land.trades.load[trade]);
        return finder.find(land.trades.from[trade], land.trades.to[trade]);
    }

    private void beginTrial() {
        trial.takeRoads(now);
        trialTrades.take(land.trades);
    }

    private void passTrial(int years, int sweptRoad) {
        for (int i = 0; i < years; i++) {
            oneYear.pass(trial, trialTrades, sweptRoad);
        }
    }

    private int wornBehind(int road, int years) {
        for (int i = 1; i <= years; i++) {
            oneYear.pass(trial, trialTrades, NONE);
            if (trial.isWorn(road)) {
                return i;
            }
        }
        return NONE;
    }

    private int holesAsTold(int years) {
        beginTrial();
        passTrial(years, NONE);
        return holesTogether(trial);
    }

    private int holesIfAllCarry(int stuff, int years) {
        beginTrial();
        trialTrades.allCarry(stuff);
        passTrial(years, NONE);
        return holesTogether(trial);
    }

    private int holesTogether(State state) {
        int sum = 0;
        for (int road = 0; road < land.roads; road++) {
            sum += Math.min(state.holes[road], WORN_THROUGH);
        }
        return sum;
    }

    private int wornRoads(State state) {
        int worn = 0;
        for (int road = 0; road < land.roads; road++) {
            worn += state.isWorn(road) ? 1 : 0;
        }
        return worn;
    }

    private boolean leavesToldLayer(int road, int set) {
        for (int stuff = 0; stuff < land.stuffs; stuff++) {
            int fallen = 0;
            for (int trade = 0; trade < land.trades.many; trade++) {
                if ((set >> trade & 1) == 1 && land.trades.stuff[trade] == stuff) {
                    fallen += land.trades.load[trade] * survey.shockOf(road, stuff) / 100;
                }
            }
            if (fallen != now.toldLayer[stuff]) {
                return false;
            }
        }
        return true;
    }

    private int cameInWar(int years) {
        int came = 0;
        for (int i = 0; i < years; i++) {
            int road = drawBelow(land.roads);
            trial.holes[road] += drawBelow(WAR_HOLES);
            oneYear.pass(trial, trialTrades, NONE);
            came += oneYear.came;
        }
        return came;
    }

    private int drawBelow(int bound) {
        draw = (draw * 1103515245L + 12345L) % 2147483648L;
        return bound > 0 ? (int) (draw / 65536L % bound) : 0;
    }

    /** What a token can be: words and signs of the language, and the rest. */
    private enum Token {
        END(""),
        NOTHING(""),
        NUMBER(""),
        NAME(""),
        OPEN("("),
        CLOSE(")"),
        SEMICOLON(";"),
        LESS("<", DO_LESS, 1),
        SAME("=", DO_SAME, 1),
        PLUS("+", DO_PLUS, 2),
        MINUS("-", DO_MINUS, 2),
        TIMES("*", DO_TIMES, 3),
        AND("and", DO_AND, 0),
        OR("or", DO_OR, 0),
        NOT("not"),
        STUFF("stuff"),
        PLACE("place"),
        ROAD("road"),
        TRADE("trade"),
        OF("of"),
        WAY("way"),
        SHOCK("shock"),
        MEND("mend"),
        LONG("long", FACT_LONG, true, true, true),
        HOLES("holes", FACT_HOLES, true, true, true),
        HARD("hard", FACT_HARD, true, true, true),
        SOFT("soft", FACT_SOFT, true, true, true),
        LOAD("load", FACT_LOAD, true, false, false),
        BRITTLE("brittle", FACT_BRITTLE, false, true, true),
        LOST("lost", FACT_LOST, false, false, true),
        STRONG("strong", FACT_STRONG, false, false, true);

        private static final Token[] ALL = values();

        private final long key;
        private final int step;
        private final int level;
        private final boolean inWay;
        private final boolean inShock;
        private final boolean inMend;

        Token(String text) {
            this(text, LostRoads.NONE, LostRoads.NONE);
        }

        Token(String text, int step, int level) {
            this.key = keyOf(text);
            this.step = step;
            this.level = level;
            this.inWay = false;
            this.inShock = false;
            this.inMend = false;
        }

        Token(String text, int step, boolean inWay, boolean inShock, boolean inMend) {
            this.key = keyOf(text);
            this.step = step;
            this.level = LostRoads.NONE;
            this.inWay = inWay;
            this.inShock = inShock;
            this.inMend = inMend;
        }

        /** Letters take 5 bits each, so that 8 of them have a key of their own; signs are below 0. */
        static long longer(long key, int sign) {
            return sign >= 'a' && sign <= 'z' ? key << 5 | sign - 'a' + 1 : -sign;
        }

        static Token of(long key) {
            for (int i = 0; i < ALL.length; i++) {
                if (ALL[i].key == key) {
                    return ALL[i];
                }
            }
            return key > 0 ? NAME : NOTHING;
        }

        boolean isName() {
            return this == NAME || this == BRITTLE || this == LOST || this == STRONG;
        }

        boolean isFactIn(int law) {
            return law == LostRoads.WAY ? inWay : law == LostRoads.SHOCK ? inShock : inMend;
        }

        private static long keyOf(String text) {
            long key = 0;
            for (int i = 0; i < text.length(); i++) {
                key = longer(key, text.charAt(i));
            }
            return key;
        }
    }

    /** The TAPE. */
    private static final class Tape {
        static final int MOST = 1000;

        int length;
        private final byte[] signs = new byte[MOST];

        void append(long eight) {
            for (int shift = 56; shift >= 0; shift -= 8) {
                int sign = (int) (eight >>> shift) & 255;
                if ((sign == 10 || sign >= 32 && sign <= 126) && length < MOST) {
                    signs[length] = (byte) sign;
                    length++;
                }
            }
        }

        int signAt(int at) {
            return at >= 0 && at < length ? signs[at] : 0;
        }

        boolean hasBlank(int at) {
            return signAt(at) == 10 || signAt(at) == 32;
        }

        boolean hasLetter(int at) {
            return signAt(at) >= 'a' && signAt(at) <= 'z';
        }

        boolean hasDigit(int at) {
            return signAt(at) >= '0' && signAt(at) <= '9';
        }
    }

    /** A TAPE cut into tokens; the last one is its end. */
    private static final class Tokens {
        static final int MOST = Tape.MOST + 1;
        private static final int LONGEST_WORD = 8;
        private static final int LONGEST_NUMBER = 4;

        int many;
        final Token[] kinds = new Token[MOST];
        final int[] places = new int[MOST];
        final long[] values = new long[MOST];

        Tokens() {
            for (int i = 0; i < MOST; i++) {
                kinds[i] = Token.END;
            }
        }

        void cut(Tape tape) {
            many = 0;
            int at = 0;
            for (int i = 0; i < Tape.MOST && at < tape.length; i++) {
                if (tape.hasBlank(at)) {
                    at++;
                } else if (tape.hasLetter(at)) {
                    at = cutWord(tape, at);
                } else if (tape.hasDigit(at)) {
                    at = cutNumber(tape, at);
                } else {
                    add(Token.of(Token.longer(0, tape.signAt(at))), at, 0);
                    at++;
                }
            }
            add(Token.END, tape.length, 0);
        }

        private int cutWord(Tape tape, int from) {
            int to = from;
            long key = 0;
            while (to < tape.length && tape.hasLetter(to)) {
                key = Token.longer(key, tape.signAt(to));
                to++;
            }
            add(to - from > LONGEST_WORD ? Token.NOTHING : Token.of(key), from, key);
            return to;
        }

        private int cutNumber(Tape tape, int from) {
            int to = from;
            int number = 0;
            while (to < tape.length && tape.hasDigit(to)) {
                number = number * 10 + tape.signAt(to) - '0';
                to++;
            }
            add(to - from > LONGEST_NUMBER ? Token.NOTHING : Token.NUMBER, from, number);
            return to;
        }

        private void add(Token kind, int place, long value) {
            if (many < MOST) {
                kinds[many] = kind;
                places[many] = place;
                values[many] = value;
                many++;
            }
        }
    }

    /** Reads tokens into a NET; behind the first FAULT nothing more is read. */
    private static final class Reader {
        private static final int WRONG = 1;
        private static final int UNKNOWN = 2;
        private static final int AGAIN = 3;
        private static final int NOT_AS_TOLD = 4;
        private static final int TOO_MANY = 5;
        private static final int DEEPEST = 5;
        private static final int LEVEL_OF_TEST = 1;
        private static final int LEVEL_OF_PART = 4;

        private final Tokens tokens;
        private final Net net;
        private Token here = Token.END;
        private int at;
        private int law;
        private int fault;

        Reader(Tokens tokens, Net net) {
            this.tokens = tokens;
            this.net = net;
        }

        int read() {
            fault = 0;
            at = 0;
            here = tokens.kinds[0];
            net.clear();
            for (int i = 0; i < Tokens.MOST && fault == 0 && here != Token.END; i++) {
                readLine();
            }
            net.fillLaws();
            return fault;
        }

        private void readLine() {
            switch (here) {
                case STUFF: readStuff(); break;
                case PLACE: readPlace(); break;
                case ROAD: readRoad(); break;
                case TRADE: readTrade(); break;
                case WAY: readLaw(WAY); break;
                case SHOCK: readLaw(SHOCK); break;
                case MEND: readLaw(MEND); break;
                default: fail(WRONG); break;
            }
        }

        private void readStuff() {
            open(net.stuffs < STUFFS, TOO_MANY);
            long name = freshName();
            skip(Token.HARD);
            int hard = numberWithin(0, 9);
            skip(Token.SOFT);
            int soft = numberWithin(0, 9);
            skip(Token.SEMICOLON);
            if (fault == 0) {
                net.addStuff(name, hard, soft);
            }
        }

        private void readPlace() {
            open(net.places < PLACES, TOO_MANY);
            long name = freshName();
            skip(Token.SEMICOLON);
            if (fault == 0) {
                net.addPlace(name);
            }
        }

        private void readRoad() {
            open(net.roads < ROADS, TOO_MANY);
            int from = placeOtherThan(NONE);
            int to = placeOtherThan(from);
            skip(Token.LONG);
            int length = numberWithin(1, 99);
            skip(Token.HOLES);
            int holes = numberWithin(0, 999);
            skip(Token.SEMICOLON);
            if (fault == 0) {
                net.addRoad(from, to, length, holes);
            }
        }

        private void readTrade() {
            open(net.trades.many < TRADES, TOO_MANY);
            int from = placeOtherThan(NONE);
            int to = placeOtherThan(from);
            skip(Token.OF);
            int stuff = stuffHere();
            skip(Token.LOAD);
            int load = numberWithin(1, MOST_LOAD);
            skip(Token.SEMICOLON);
            if (fault == 0) {
                net.trades.add(from, to, stuff, load);
            }
        }

        private void readLaw(int which) {
            open(!net.hasLaw(which), AGAIN);
            law = which;
            net.lawBegin[which] = net.codes;
            readJoined(0, 0);
            skip(Token.SEMICOLON);
            net.lawEnd[which] = net.codes;
        }

        /**
         * An E is of level 0, a TEST of 1, a SUM of 2, a PRODUCT of 3, a PART of 4: each is made of those
         * of the next level with the operators of its own between them. The depth is how many of not and
         * ( ) lie round it.
         */
        private void readJoined(int level, int depth) {
            if (level >= LEVEL_OF_PART) {
                readPart(depth);
                return;
            }
            readJoined(level + 1, depth);
            int most = level == LEVEL_OF_TEST ? 1 : Tokens.MOST;
            for (int i = 0; i < most && fault == 0 && here.level == level; i++) {
                int step = here.step;
                step();
                readJoined(level + 1, depth);
                net.emit(step);
            }
        }

        private void readPart(int depth) {
            boolean isFact = here.isFactIn(law);
            boolean isNumber = here == Token.NUMBER;
            if (fault != 0) {
                return;
            }
            if (!isFact && !isNumber && here != Token.NOT && here != Token.OPEN) {
                fail(WRONG);
            } else if (depth >= DEEPEST) {
                fail(TOO_MANY);
            } else if (isFact || isNumber) {
                net.emit(isFact ? here.step : NUMBERS + (int) tokens.values[at]);
                step();
            } else if (here == Token.NOT) {
                step();
                readPart(depth + 1);
                net.emit(DO_NOT);
            } else {
                step();
                readJoined(0, depth + 1);
                skip(Token.CLOSE);
            }
        }

        private void open(boolean mayStand, int kind) {
            if (!mayStand) {
                fail(kind);
            }
            step();
        }

        private long freshName() {
            long name = tokens.values[at];
            if (!here.isName()) {
                fail(WRONG);
            } else if (net.stuffNamed(name) != NONE || net.placeNamed(name) != NONE) {
                fail(AGAIN);
            }
            step();
            return name;
        }

        private int placeOtherThan(int other) {
            int place = net.placeNamed(tokens.values[at]);
            if (!here.isName()) {
                fail(WRONG);
            } else if (place == NONE) {
                fail(UNKNOWN);
            } else if (place == other) {
                fail(AGAIN);
            }
            step();
            return place;
        }

        private int stuffHere() {
            int stuff = net.stuffNamed(tokens.values[at]);
            if (!here.isName()) {
                fail(WRONG);
            } else if (stuff == NONE) {
                fail(UNKNOWN);
            }
            step();
            return stuff;
        }

        private int numberWithin(int least, int most) {
            int number = (int) tokens.values[at];
            if (here != Token.NUMBER) {
                fail(WRONG);
            } else if (number < least || number > most) {
                fail(NOT_AS_TOLD);
            }
            step();
            return number;
        }

        private void skip(Token wanted) {
            if (here != wanted) {
                fail(WRONG);
            }
            step();
        }

        /** Behind a FAULT all stays at the token that is wrong. */
        private void step() {
            if (fault == 0 && at + 1 < tokens.many) {
                at++;
                here = tokens.kinds[at];
            }
        }

        /** The first FAULT is the one that counts: what is called behind it does no harm. */
        private void fail(int kind) {
            if (fault == 0) {
                fault = kind + 16 * tokens.places[at];
            }
        }
    }

    /** Trades by their numbers. */
    private static final class Trades {
        int many;
        final int[] from = new int[TRADES];
        final int[] to = new int[TRADES];
        final int[] stuff = new int[TRADES];
        final int[] load = new int[TRADES];

        void add(int first, int second, int carried, int parts) {
            if (many < TRADES) {
                from[many] = first;
                to[many] = second;
                stuff[many] = carried;
                load[many] = parts;
                many++;
            }
        }

        void take(Trades other) {
            many = other.many;
            System.arraycopy(other.from, 0, from, 0, TRADES);
            System.arraycopy(other.to, 0, to, 0, TRADES);
            System.arraycopy(other.stuff, 0, stuff, 0, TRADES);
            System.arraycopy(other.load, 0, load, 0, TRADES);
        }

        void allCarry(int one) {
            Arrays.fill(stuff, one);
        }
    }

    /** What a NET tells, and no year changes. */
    private static final class Net {
        /** Every sign of the TAPE could be a step of a law; laws that are not told take one each. */
        private static final int MOST_CODE = Tape.MOST + LAWS;

        int stuffs;
        int places;
        int roads;
        final long[] stuffNames = new long[STUFFS];
        final long[] placeNames = new long[PLACES];
        final int[] hard = new int[STUFFS];
        final int[] soft = new int[STUFFS];
        final int[] roadFrom = new int[ROADS];
        final int[] roadTo = new int[ROADS];
        final int[] roadLong = new int[ROADS];
        final int[] roadHoles = new int[ROADS];
        final Trades trades = new Trades();
        final int[] code = new int[MOST_CODE];
        final int[] lawBegin = new int[LAWS];
        final int[] lawEnd = new int[LAWS];
        int codes;
        boolean heedsLoad;

        void clear() {
            stuffs = 0;
            places = 0;
            roads = 0;
            trades.many = 0;
            Arrays.fill(lawBegin, 0);
            Arrays.fill(lawEnd, 0);
            codes = 0;
            heedsLoad = false;
        }

        void addStuff(long name, int howHard, int howSoft) {
            if (stuffs < STUFFS) {
                stuffNames[stuffs] = name;
                hard[stuffs] = howHard;
                soft[stuffs] = howSoft;
                stuffs++;
            }
        }

        void addPlace(long name) {
            if (places < PLACES) {
                placeNames[places] = name;
                places++;
            }
        }

        void addRoad(int from, int to, int length, int holes) {
            if (roads < ROADS) {
                roadFrom[roads] = from;
                roadTo[roads] = to;
                roadLong[roads] = length;
                roadHoles[roads] = holes;
                roads++;
            }
        }

        int stuffNamed(long name) {
            return numberOf(stuffNames, stuffs, name);
        }

        int placeNamed(long name) {
            return numberOf(placeNames, places, name);
        }

        private static int numberOf(long[] names, int many, long name) {
            for (int i = 0; i < many && i < names.length; i++) {
                if (names[i] == name) {
                    return i;
                }
            }
            return NONE;
        }

        boolean hasLaw(int law) {
            return lawEnd[law] > lawBegin[law];
        }

        void emit(int step) {
            if (codes < MOST_CODE) {
                code[codes] = step;
                codes++;
            }
            heedsLoad = heedsLoad || step == FACT_LOAD;
        }

        /** Laws that were not told become laws of one fact, so that all are reckoned alike. */
        void fillLaws() {
            fillLaw(WAY, FACT_LONG);
            fillLaw(SHOCK, FACT_HOLES);
            fillLaw(MEND, FACT_STRONG);
        }

        private void fillLaw(int law, int fact) {
            if (!hasLaw(law)) {
                lawBegin[law] = codes;
                emit(fact);
                lawEnd[law] = codes;
            }
        }

        /** Where a road leads from a place; NONE if it does not begin or end there. */
        int otherEnd(int road, int place) {
            return roadFrom[road] == place ? roadTo[road] : roadTo[road] == place ? roadFrom[road] : NONE;
        }

        /** The names stay behind: only reading a NET asks for them. */
        void take(Net other) {
            stuffs = other.stuffs;
            places = other.places;
            roads = other.roads;
            codes = other.codes;
            heedsLoad = other.heedsLoad;
            System.arraycopy(other.hard, 0, hard, 0, STUFFS);
            System.arraycopy(other.soft, 0, soft, 0, STUFFS);
            System.arraycopy(other.roadFrom, 0, roadFrom, 0, ROADS);
            System.arraycopy(other.roadTo, 0, roadTo, 0, ROADS);
            System.arraycopy(other.roadLong, 0, roadLong, 0, ROADS);
            System.arraycopy(other.roadHoles, 0, roadHoles, 0, ROADS);
            System.arraycopy(other.code, 0, code, 0, MOST_CODE);
            System.arraycopy(other.lawBegin, 0, lawBegin, 0, LAWS);
            System.arraycopy(other.lawEnd, 0, lawEnd, 0, LAWS);
            trades.take(other.trades);
        }
    }

    /** All that years and calls change in a NET. */
    private static final class State {
        int year;
        final int[] holes = new int[ROADS];
        final int[] surface = new int[ROADS * STUFFS];
        final int[] onPurpose = new int[ROADS * STUFFS];
        final int[] fell = new int[STUFFS];
        final int[] cameLast = new int[TRADES];
        final int[] cameAll = new int[TRADES];
        final int[] toldLayer = new int[STUFFS];
        final int[] layers;
        private final int kept;

        State(int kept) {
            this.kept = kept > 0 ? kept : 0;
            this.layers = new int[this.kept * ROADS * STUFFS];
        }

        void begin(Net net) {
            year = 0;
            System.arraycopy(net.roadHoles, 0, holes, 0, ROADS);
            Arrays.fill(surface, 0);
            Arrays.fill(onPurpose, 0);
            Arrays.fill(fell, 0);
            Arrays.fill(cameLast, NONE);
            Arrays.fill(cameAll, 0);
            Arrays.fill(toldLayer, 0);
        }

        /** What the years to come are reckoned from; layers and what is told do not matter to them. */
        void takeRoads(State other) {
            year = other.year;
            System.arraycopy(other.holes, 0, holes, 0, ROADS);
            System.arraycopy(other.surface, 0, surface, 0, ROADS * STUFFS);
            System.arraycopy(other.onPurpose, 0, onPurpose, 0, ROADS * STUFFS);
            System.arraycopy(other.fell, 0, fell, 0, STUFFS);
            System.arraycopy(other.cameLast, 0, cameLast, 0, TRADES);
            System.arraycopy(other.cameAll, 0, cameAll, 0, TRADES);
        }

        void takeAll(State other) {
            takeRoads(other);
            System.arraycopy(other.toldLayer, 0, toldLayer, 0, STUFFS);
            System.arraycopy(other.layers, 0, layers, 0, Math.min(layers.length, other.layers.length));
        }

        boolean isWorn(int road) {
            return holes[road] >= WORN_THROUGH;
        }

        /** The mean of a number of each STUFF over the parts of a road's SURFACE. */
        int mean(int road, int[] ofStuff) {
            long parts = 0;
            long sum = 0;
            for (int stuff = 0; stuff < STUFFS; stuff++) {
                int here = surface[cell(road, stuff)];
                parts += here;
                sum += (long) here * ofStuff[stuff];
            }
            return parts > 0 ? (int) (sum / parts) : 0;
        }

        boolean keeps(int which) {
            return which >= 0 && which < kept;
        }

        void keepLayer(int road, int stuff, int parts) {
            if (keeps(year)) {
                layers[layerCell(year, road, stuff)] = parts;
            }
        }

        static int layerCell(int year, int road, int stuff) {
            return year * ROADS * STUFFS + cell(road, stuff);
        }
    }

    /** What the laws say of the roads as they are when they are looked at. */
    private static final class Survey {
        /** Four operands may wait in each of the five depths, and one is in hand. */
        private static final int DEEPEST_STACK = 32;

        private final Net net;
        private final int[] facts = new int[FACTS];
        private final int[] stack = new int[DEEPEST_STACK];
        private final int[] holes = new int[ROADS];
        private final int[] hard = new int[ROADS];
        private final int[] soft = new int[ROADS];
        private final int[] shocks = new int[ROADS * STUFFS];

        Survey(Net net) {
            this.net = net;
        }

        void look(State state) {
            for (int road = 0; road < net.roads; road++) {
                holes[road] = state.holes[road];
                hard[road] = state.mean(road, net.hard);
                soft[road] = state.mean(road, net.soft);
            }
            Arrays.fill(shocks, NONE);
        }

        boolean isWorn(int road) {
            return holes[road] >= WORN_THROUGH;
        }

        int priceOf(int road, int load) {
            setRoad(road);
            facts[FACT_LOAD] = load;
            return within(1, value(WAY), 9999);
        }

        /** Kept for as long as the roads are the same: several trades may bear one STUFF over a road. */
        int shockOf(int road, int stuff) {
            int at = cell(road, stuff);
            if (shocks[at] == NONE) {
                setRoad(road);
                facts[FACT_BRITTLE] = 9 - net.soft[stuff];
                shocks[at] = within(0, value(SHOCK), 100);
            }
            return shocks[at];
        }

        int mendOf(int road, int stuff, int parts) {
            setRoad(road);
            facts[FACT_BRITTLE] = 9 - net.soft[stuff];
            facts[FACT_LOST] = parts;
            facts[FACT_STRONG] = net.hard[stuff];
            return within(0, value(MEND), 99);
        }

        private void setRoad(int road) {
            facts[FACT_LONG] = net.roadLong[road];
            facts[FACT_HOLES] = holes[road];
            facts[FACT_HARD] = hard[road];
            facts[FACT_SOFT] = soft[road];
        }

        private int value(int law) {
            int top = 0;
            for (int i = net.lawBegin[law]; i < net.lawEnd[law] && i < Net.MOST_CODE; i++) {
                int step = net.code[i];
                if (step >= NUMBERS || step < FACTS) {
                    if (top < DEEPEST_STACK) {
                        stack[top] = step >= NUMBERS ? step - NUMBERS : facts[step];
                        top++;
                    }
                } else if (step == DO_NOT && top >= 1) {
                    stack[top - 1] = stack[top - 1] == 0 ? 1 : 0;
                } else if (top >= 2) {
                    top--;
                    stack[top - 1] = joined(step, stack[top - 1], stack[top]);
                }
            }
            return stack[0];
        }

        private static int joined(int step, int left, int right) {
            switch (step) {
                case DO_AND: return left != 0 && right != 0 ? 1 : 0;
                case DO_OR: return left != 0 || right != 0 ? 1 : 0;
                case DO_LESS: return left < right ? 1 : 0;
                case DO_SAME: return left == right ? 1 : 0;
                case DO_PLUS: return left + right;
                case DO_MINUS: return left - right;
                case DO_TIMES: return left * right;
                default: return 0;
            }
        }
    }

    /** Finds the WAY of a trade over the roads as the survey saw them. */
    private static final class WayFinder {
        /** A price and, below it, how many roads: so one number tells which of two ways is better. */
        private static final int PRICE = 16;
        private static final int FAR = 1 << 29;

        int many;
        int price;
        final int[] row = new int[PLACES];
        private final Net net;
        private final Survey survey;
        private final int[] prices = new int[ROADS];
        private final int[] best = new int[PLACES];

        WayFinder(Net net, Survey survey) {
            this.net = net;
            this.survey = survey;
        }

        /** What each road costs for a load; to be set when the survey has looked anew. */
        void setPrices(int load) {
            for (int road = 0; road < net.roads; road++) {
                prices[road] = survey.isWorn(road) ? FAR : survey.priceOf(road, load) * PRICE + 1;
            }
        }

        boolean find(int from, int to) {
            many = 0;
            Arrays.fill(best, FAR);
            best[to] = 0;
            boolean better = true;
            for (int i = 0; i < PLACES && better; i++) {
                better = improve();
            }
            price = best[from] / PRICE;
            int at = best[from] < FAR ? from : NONE;
            while (at != NONE && at != to && many < PLACES) {
                // All best rows are of one length, so the least road at each place makes the first one.
                int road = firstRoad(at);
                row[many] = road;
                many++;
                at = road == NONE ? NONE : net.otherEnd(road, at);
            }
            return at == to;
        }

        private boolean improve() {
            boolean better = false;
            for (int road = 0; road < net.roads; road++) {
                int one = net.roadFrom[road];
                int other = net.roadTo[road];
                if (best[other] + prices[road] < best[one]) {
                    best[one] = best[other] + prices[road];
                    better = true;
                } else if (best[one] + prices[road] < best[other]) {
                    best[other] = best[one] + prices[road];
                    better = true;
                }
            }
            return better;
        }

        private int firstRoad(int at) {
            for (int road = 0; road < net.roads; road++) {
                int other = net.otherEnd(road, at);
                if (other != NONE && best[other] + prices[road] == best[at]) {
                    return road;
                }
            }
            return NONE;
        }
    }

    /** Lets a YEAR pass. */
    private static final class Year {
        /** What COMES through of all trades in the YEAR that passed. */
        int came;
        private final Net net;
        private final Survey survey;
        private final WayFinder finder;
        private final int[] lying = new int[ROADS * STUFFS];
        private final int[] passed = new int[ROADS];

        Year(Net net, Survey survey, WayFinder finder) {
            this.net = net;
            this.survey = survey;
            this.finder = finder;
        }

        void pass(State state, Trades trades, int sweptRoad) {
            survey.look(state);
            Arrays.fill(lying, 0);
            Arrays.fill(passed, 0);
            came = 0;
            for (int trade = 0; trade < trades.many; trade++) {
                if (trade == 0 || net.heedsLoad) {
                    finder.setPrices(trades.load[trade]);
                }
                if (finder.find(trades.from[trade], trades.to[trade])) {
                    carry(state, trades, trade);
                } else {
                    state.cameLast[trade] = NONE;
                }
            }
            for (int road = 0; road < net.roads; road++) {
                dropOnPurpose(state, road);
                if (road == sweptRoad) {
                    sweep(road);
                }
                mendRoad(state, road);
            }
            state.year++;
        }

        private void carry(State state, Trades trades, int trade) {
            int stuff = trades.stuff[trade];
            int left = trades.load[trade];
            for (int i = 0; i < finder.many; i++) {
                int road = finder.row[i];
                int falls = left * survey.shockOf(road, stuff) / 100;
                passed[road] += left;
                lying[cell(road, stuff)] += falls;
                state.fell[stuff] += falls;
                left -= falls;
            }
            state.cameLast[trade] = left;
            state.cameAll[trade] += left;
            came += left;
        }

        private void dropOnPurpose(State state, int road) {
            for (int stuff = 0; stuff < net.stuffs; stuff++) {
                int parts = state.onPurpose[cell(road, stuff)];
                lying[cell(road, stuff)] += parts;
                state.fell[stuff] += parts;
            }
        }

        private void sweep(int road) {
            for (int stuff = 0; stuff < STUFFS; stuff++) {
                lying[cell(road, stuff)] = 0;
            }
        }

        private void mendRoad(State state, int road) {
            int holes = Math.min(state.holes[road] + passed[road] / 10, MOST_HOLES);
            for (int stuff = 0; stuff < net.stuffs; stuff++) {
                int parts = lying[cell(road, stuff)];
                if (parts > 0) {
                    holes = Math.max(0, holes - survey.mendOf(road, stuff, parts) * parts);
                    state.surface[cell(road, stuff)] += parts;
                }
                state.keepLayer(road, stuff, parts);
            }
            state.holes[road] = holes;
        }
    }
}
